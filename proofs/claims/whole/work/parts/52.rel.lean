/-! bits by place -/
theorem pl_31 : ∀ k, k < 16 → nI k &&& 31 = nI k ∧ ((nI k).toBitVec.smod 32).toNat = k ∧ ((nI k).toBitVec.smod 32) = BitVec.ofNat 32 k := by decide +kernel
theorem one_lsb : ∀ i, i < 32 → (nI 1).toBitVec.getLsbD i = decide (i = 0) := by decide +kernel
theorem zero_lsb : ∀ i, i < 32 → (Int32.toBitVec 0).getLsbD i = false := by decide +kernel
theorem hasB_lsb (x : Int32) {k : Nat} (hk : k < 16) : hasB x (nI k) = x.toBitVec.getLsbD k := by
  obtain ⟨e1, e2, e3⟩ := pl_31 k hk
  have key : ((x >>> (nI k &&& 31)) &&& nI 1) = 0 ↔ x.toBitVec.getLsbD k = false := by
    rw [e1, ← Int32.toBitVec_inj, Int32.toBitVec_and, Int32.toBitVec_shiftRight, e3]
    constructor
    · intro h
      have h2 := congrArg (fun v : BitVec 32 => v.getLsbD 0) h
      simp only [BitVec.getLsbD_and] at h2
      rw [one_lsb 0 (by omega)] at h2
      have e9 : (x.toBitVec.sshiftRight' (BitVec.ofNat 32 k)).getLsbD 0 = x.toBitVec.getLsbD k := by
        rw [BitVec.sshiftRight', BitVec.getLsbD_sshiftRight]
        have : (BitVec.ofNat 32 k).toNat = k := by rw [← e3]; exact e2
        rw [this]
        simp
        omega
      rw [e9] at h2
      simpa using h2
    · intro h
      apply BitVec.eq_of_getLsbD_eq
      intro i hi
      rw [BitVec.getLsbD_and, one_lsb i hi]
      by_cases h0 : i = 0
      · subst h0
        have e9 : (x.toBitVec.sshiftRight' (BitVec.ofNat 32 k)).getLsbD 0 = x.toBitVec.getLsbD k := by
          rw [BitVec.sshiftRight', BitVec.getLsbD_sshiftRight]
          have : (BitVec.ofNat 32 k).toNat = k := by rw [← e3]; exact e2
          rw [this]
          simp
          omega
        rw [e9, h]; rfl
      · rw [decide_eq_false h0, Bool.and_false, zero_lsb i hi]
  unfold hasB
  cases hb : x.toBitVec.getLsbD k with
  | false => exact decide_eq_false (fun z => z (key.2 hb))
  | true => exact decide_eq_true (fun z => by rw [key.1 z] at hb; cases hb)
theorem shl_lsb {k b : Nat} (hk : k < 16) (hb : b < 16) : (nI 1 <<< (nI k &&& 31)).toBitVec.getLsbD b = decide (b = k) := by
  have : ∀ k, k < 16 → ∀ b, b < 16 → (nI 1 <<< (nI k &&& 31)).toBitVec.getLsbD b = decide (b = k) := by decide +kernel
  exact this k hk b hb
theorem hasB_set (is : Bool) (x : Int32) {k b : Nat} (hk : k < 16) (hb : b < 16) : hasB (bitS is x (nI k)) (nI b) = if b = k then is else hasB x (nI b) := by
  rw [hasB_lsb _ hb, hasB_lsb _ hb]
  cases is with
  | true =>
    show (x ||| (nI 1 <<< (nI k &&& 31))).toBitVec.getLsbD b = _
    rw [Int32.toBitVec_or, BitVec.getLsbD_or, shl_lsb hk hb]
    by_cases h : b = k
    · rw [if_pos h, decide_eq_true h, Bool.or_true]
    · rw [if_neg h, decide_eq_false h, Bool.or_false]
  | false =>
    show (x &&& ((nI 1 <<< (nI k &&& 31)) ^^^ (-1))).toBitVec.getLsbD b = _
    rw [Int32.toBitVec_and, BitVec.getLsbD_and, Int32.toBitVec_xor, BitVec.getLsbD_xor, shl_lsb hk hb]
    have e : ∀ b, b < 16 → (-1 : Int32).toBitVec.getLsbD b = true := by decide +kernel
    rw [e b hb]
    by_cases h : b = k
    · rw [if_pos h, decide_eq_true h]; simp
    · rw [if_neg h, decide_eq_false h]; simp
/-- what is told of two is told both ways -/
def symB (f : Nat → Int32) : Prop := ∀ i j, i < 16 → j < 16 → hasB (f i) (nI j) = hasB (f j) (nI i)
theorem symB_t {f : Nat → Int32} (h : symB f) (is : Bool) {i j : Nat} (hi : i < 16) (hj : j < 16) (hne : ¬ i = j) : symB (tellF is f i j) := by
  have en : ∀ a b, b < 16 → hasB (tellF is f i j a) (nI b) = if (a = i ∧ b = j) ∨ (a = j ∧ b = i) then is else hasB (f a) (nI b) := fun a b hb => by
    have e : upd f i (bitS is (f i) (nI j)) j = f j := by simp only [upd]; rw [if_neg (fun z => hne z.symm)]
    show hasB ((upd (upd f i (bitS is (f i) (nI j))) j (bitS is (upd f i (bitS is (f i) (nI j)) j) (nI i))) a) (nI b) = _
    rw [e]
    simp only [upd]
    by_cases ca : a = j
    · rw [if_pos ca, hasB_set is _ hi hb]
      by_cases cb : b = i
      · rw [if_pos cb, if_pos (Or.inr ⟨ca, cb⟩)]
      · rw [if_neg cb, if_neg (fun z => z.elim (fun y => hne (y.1.symm.trans ca)) (fun y => cb y.2)), ca]
    · rw [if_neg ca]
      by_cases ci : a = i
      · rw [if_pos ci, hasB_set is _ hj hb]
        by_cases cb : b = j
        · rw [if_pos cb, if_pos (Or.inl ⟨ci, cb⟩)]
        · rw [if_neg cb, if_neg (fun z => z.elim (fun y => cb y.2) (fun y => ca y.1)), ci]
      · rw [if_neg ci, if_neg (fun z => z.elim (fun y => ci y.1) (fun y => ca y.1))]
  intro a b ha hb
  rw [en a b hb, en b a ha]
  by_cases c : (a = i ∧ b = j) ∨ (a = j ∧ b = i)
  · rw [if_pos c, if_pos (c.elim (fun z => Or.inr ⟨z.2, z.1⟩) (fun z => Or.inl ⟨z.2, z.1⟩))]
  · rw [if_neg c, if_neg (fun z => c (z.elim (fun y => Or.inr ⟨y.2, y.1⟩) (fun y => Or.inl ⟨y.2, y.1⟩)))]
    exact h a b ha hb
/-! the class's state (g, z) and the reference's (g', z') -/
def rE (g : Nat → Nat → Int32) (z : Nat → Nat) (g' : Nat → Nat → Int32) (z' : Nat → Nat) : Prop :=
  (z' 0 = z 0 ∧ z' 1 = z 1 ∧ z' 2 = z 2) ∧ (g' 0 = g 0 ∧ g' 1 = g 1 ∧ g' 2 = g 2 ∧ g' 3 = g 3 ∧ g' 4 = g 4 ∧ g' 5 = g 5 ∧ g' 8 = g 8 ∧ g' 9 = g 9 ∧ g' 10 = g 10 ∧ g' 11 = g 11 ∧ g' 12 = g 12 ∧ g' 14 = g 14 ∧ g' 15 = g 15 ∧ g' 16 = g 16 ∧ g' 17 = g 17 ∧ g' 22 = g 22 ∧ g' 23 = g 23) ∧ (∀ k, k < z 0 → g' 13 k = g 13 k ∧ g' 18 k = g 18 k)
def rY (g : Nat → Nat → Int32) (z : Nat → Nat) : Prop :=
  yOK (g 14) (g 15) (g 16) (g 12) (g 13) (z 1) (z 0) ∧ (∃ X, dtg (g 14) (g 15) (g 16) (g 12) (g 13) (z 1) (z 0) X) ∧ lsF (g 14) (g 15) (g 16) (g 12) (z 1) (z 0) (g 17) ∧ lsL (g 14) (g 15) (g 16) (g 13) (z 1) (z 0) (g 18) ∧
  (∀ k, z 0 ≤ k → g 12 k = nI 0 ∧ g 13 k = nI 999 ∧ g 17 k = nI 0 ∧ g 18 k = nI 999) ∧ (∀ k, k < z 1 → q_r (g 14 k) 16 ∧ q_r (g 15 k) 16)
def rP (g : Nat → Nat → Int32) (z : Nat → Nat) : Prop :=
  (∀ k, k < z 0 → g 3 k = (-1) ∨ q_r (g 3 k) 8) ∧ (∀ k, k < z 0 → q_r (g 22 k) (z 2)) ∧ (∀ k, z 0 ≤ k → g 22 k = nI 0) ∧ (∀ k, k < z 2 → q_r (g 23 k) (z 2)) ∧ z 0 ≤ 16 ∧ z 1 ≤ 40 ∧ z 2 ≤ 40
def rS (g : Nat → Nat → Int32) : Prop := symB (g 9) ∧ symB (g 10)
def rC (g' : Nat → Nat → Int32) : Prop := ∀ k, k < 6 → q_r (g' 24 k) 16
def rRel (g : Nat → Nat → Int32) (z : Nat → Nat) (g' : Nat → Nat → Int32) (z' : Nat → Nat) : Prop := rE g z g' z' ∧ rY g z ∧ rP g z ∧ rS g ∧ rC g'
theorem rR_4 {g g' : Nat → Nat → Int32} {z z' : Nat → Nat} {k : Nat} (h : rRel g z g' z') : rRel g z g' (zs z' 4 k) := ⟨⟨⟨h.1.1.1, h.1.1.2.1, h.1.1.2.2⟩, h.1.2⟩, h.2⟩
theorem q_r_mono {x : Int32} {n m : Nat} (h : q_r x n) (hm : n ≤ m) : q_r x m := by
  obtain ⟨j, h1, h2⟩ := h
  exact ⟨j, by omega, h2⟩
/-! what both sides ask of their arrays -/
section CG
variable {g g' : Nat → Nat → Int32} {i j n : Nat}
theorem wtN_cg (e0 : g' 0 = g 0) (e1 : g' 1 = g 1) (e2 : g' 2 = g 2) (e3 : g' 3 = g 3) (e9 : g' 9 = g 9) : wtN g' i j = wtN g i j := by unfold wtN; rw [e0, e1, e2, e3, e9]
theorem abo_cg (e3 : g' 3 = g 3) (e8 : g' 8 = g 8) (e17 : g' 17 = g 17) (hi : g' 18 i = g 18 i) (hj : g' 18 j = g 18 j) : abo g' i j = abo g i j := by unfold abo; rw [e3, e8, e17, hi, hj]
theorem prB_cg {r : Nat} (e1 : g' 1 = g 1) (e10 : g' 10 = g 10) (h : abo g' i j = abo g i j) : prB g' r i j = prB g r i j := by unfold prB; rw [e1, e10, h]
theorem hrO_cg {r : Nat} (e22 : g' 22 = g 22) (h : ∀ a b, a < n → b < n → prB g' r a b = prB g r a b) : hrO g' n r i j n = hrO g n r i j n := by
  rw [Bool.eq_iff_iff, hrO_if, hrO_if, e22]
  constructor
  · rintro ⟨a, b, h1, h2, h3, h4, h5⟩
    exact ⟨a, b, h1, h2, h3, h4, by rw [← h a b h1 h2]; exact h5⟩
  · rintro ⟨a, b, h1, h2, h3, h4, h5⟩
    exact ⟨a, b, h1, h2, h3, h4, by rw [h a b h1 h2]; exact h5⟩
theorem rsN_cg {z z' : Nat → Nat} (h : rE g z g' z') : rsN g' (z 0) i j = rsN g (z 0) i j := by
  obtain ⟨-, ⟨e0, e1, e2, e3, e4, e5, e8, e9, e10, e11, e12, e14, e15, e16, e17, e22, e23⟩, h13⟩ := h
  have hp : ∀ r a b, a < z 0 → b < z 0 → prB g' r a b = prB g r a b := fun r a b ha hb => prB_cg e1 e10 (abo_cg e3 e8 e17 (h13 a ha).2 (h13 b hb).2)
  unfold rsN
  rw [e22, hrO_cg e22 (hp 2), hrO_cg e22 (hp 3), hrO_cg e22 (hp 4), wtN_cg e0 e1 e2 e3 e9]
theorem icB_cg {w : Int32} (e22 : g' 22 = g 22) (e3 : g' 3 = g 3) : icB g' w i = icB g w i := by unfold icB; rw [e22, e3]
theorem ieB_cg (e17 : g' 17 = g 17) : ieB g' i j = ieB g i j := by unfold ieB; rw [e17]
theorem icE_cg {w : Int32} {k : Nat} (e22 : g' 22 = g 22) (e3 : g' 3 = g 3) (e17 : g' 17 = g 17) : ∀ m, icE g' w k m = icE g w k m
  | 0 => rfl
  | m + 1 => by rw [icE, icE, icE_cg e22 e3 e17 m, icB_cg e22 e3, ieB_cg e17]
theorem icF_cg {w : Int32} {p : Nat} (e22 : g' 22 = g 22) (e3 : g' 3 = g 3) (e17 : g' 17 = g 17) : ∀ k, icF g' w n p k = icF g w n p k
  | 0 => rfl
  | k + 1 => by rw [icF, icF, icF_cg e22 e3 e17 k, icB_cg e22 e3, icE_cg e22 e3 e17]
theorem bmR_cg {w : Int32} (e22 : g' 22 = g 22) (e3 : g' 3 = g 3) (e17 : g' 17 = g 17) (e5 : g' 5 = g 5) : ∀ (u a : Nat) (b : Int32) (t : Nat), bmR g' w n u a b t = bmR g w n u a b t
  | 0, _, _, _ => rfl
  | u + 1, a, b, t => by
    have hk : ∀ x, bmK g' x = bmK g x := fun x => by unfold bmK; rw [e5, e3]
    rw [bmR, bmR, bmR_cg e22 e3 e17 e5 u, icF_cg e22 e3 e17, hk, hk]
theorem dmI_cg {k : Nat} (e4 : g' 4 = g 4) (e22 : g' 22 = g 22) : ∀ m, dmI g' k m = dmI g k m
  | 0 => rfl
  | m + 1 => by rw [dmI, dmI, dmI_cg e4 e22 m, e4, e22]
theorem dmO_cg (e4 : g' 4 = g 4) (e22 : g' 22 = g 22) : ∀ k, dmO g' k = dmO g k
  | 0 => rfl
  | k + 1 => by rw [dmO, dmO, dmO_cg e4 e22 k, dmI_cg e4 e22]
theorem kn_c (x y : Int32) : kn x y = kn y x := kn_sy x y
theorem hof_c (x y : Int32) : hof x y = hof y x := by
  unfold hof
  by_cases h : ¬ x = (-1) ∧ ¬ y = (-1) ∧ ¬ x = y
  · rw [decide_eq_true h, decide_eq_true ⟨h.2.1, h.1, fun z => h.2.2 z.symm⟩]
  · rw [decide_eq_false h, decide_eq_false (fun z => h ⟨z.2.1, z.1, fun y9 => z.2.2 y9.symm⟩)]
theorem wtN_c (h : symB (g 9)) (hi : i < 16) (hj : j < 16) : wtN g i j = wtN g j i := by
  have e : ∀ a b : Int32, (if a = b then 2 else 0 : Nat) = (if b = a then 2 else 0) := fun a b => by
    by_cases c : a = b
    · rw [if_pos c, if_pos c.symm]
    · rw [if_neg c, if_neg (fun z => c z.symm)]
  have e1 : ∀ a b : Int32, (if a = b then 1 else 0 : Nat) = (if b = a then 1 else 0) := fun a b => by
    by_cases c : a = b
    · rw [if_pos c, if_pos c.symm]
    · rw [if_neg c, if_neg (fun z => c z.symm)]
  unfold wtN
  rw [e (g 0 i) (g 0 j), e1 (g 2 i) (g 2 j), kn_c (g 1 i) (g 1 j), kn_c (g 3 i) (g 3 j), h i j hi hj]
end CG
