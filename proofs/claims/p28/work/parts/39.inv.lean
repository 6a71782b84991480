/-! bits by place -/
theorem pl_31 : ∀ k, k < 16 → nI k &&& 31 = nI k ∧ ((nI k).toBitVec.smod 32).toNat = k ∧ ((nI k).toBitVec.smod 32) = BitVec.ofNat 32 k := by decide +kernel
theorem one_lsb : ∀ i, i < 32 → (nI 1).toBitVec.getLsbD i = decide (i = 0) := by decide +kernel
theorem zero_lsb : ∀ i, i < 32 → (Int32.toBitVec 0).getLsbD i = false := by decide +kernel
theorem hasB_lsb (x : Int32) {k : Nat} (hk : k < 16) : hasB x (nI k) = x.toBitVec.getLsbD k := by
  obtain ⟨e1, e2, e3⟩ := pl_31 k hk
  have key : ((x >>> (nI k &&& 31)) &&& nI 1) = 0 ↔ x.toBitVec.getLsbD k = false := by
    rw [e1, ← Int32.toBitVec_inj, Int32.toBitVec_and, Int32.toBitVec_shiftRight, e3]
    constructor
    · intro h
      have h2 := congrArg (fun v : BitVec 32 => v.getLsbD 0) h
      simp only [BitVec.getLsbD_and] at h2
      rw [one_lsb 0 (by omega)] at h2
      have e9 : (x.toBitVec.sshiftRight' (BitVec.ofNat 32 k)).getLsbD 0 = x.toBitVec.getLsbD k := by
        rw [BitVec.sshiftRight', BitVec.getLsbD_sshiftRight]
        have : (BitVec.ofNat 32 k).toNat = k := by rw [← e3]; exact e2
        rw [this]
        simp
        omega
      rw [e9] at h2
      simpa using h2
    · intro h
      apply BitVec.eq_of_getLsbD_eq
      intro i hi
      rw [BitVec.getLsbD_and, one_lsb i hi]
      by_cases h0 : i = 0
      · subst h0
        have e9 : (x.toBitVec.sshiftRight' (BitVec.ofNat 32 k)).getLsbD 0 = x.toBitVec.getLsbD k := by
          rw [BitVec.sshiftRight', BitVec.getLsbD_sshiftRight]
          have : (BitVec.ofNat 32 k).toNat = k := by rw [← e3]; exact e2
          rw [this]
          simp
          omega
        rw [e9, h]; rfl
      · rw [decide_eq_false h0, Bool.and_false, zero_lsb i hi]
  unfold hasB
  cases hb : x.toBitVec.getLsbD k with
  | false => exact decide_eq_false (fun z => z (key.2 hb))
  | true => exact decide_eq_true (fun z => by rw [key.1 z] at hb; cases hb)
theorem shl_lsb {k b : Nat} (hk : k < 16) (hb : b < 16) : (nI 1 <<< (nI k &&& 31)).toBitVec.getLsbD b = decide (b = k) := by
  have : ∀ k, k < 16 → ∀ b, b < 16 → (nI 1 <<< (nI k &&& 31)).toBitVec.getLsbD b = decide (b = k) := by decide +kernel
  exact this k hk b hb
theorem hasB_set (is : Bool) (x : Int32) {k b : Nat} (hk : k < 16) (hb : b < 16) : hasB (bitS is x (nI k)) (nI b) = if b = k then is else hasB x (nI b) := by
  rw [hasB_lsb _ hb, hasB_lsb _ hb]
  cases is with
  | true =>
    show (x ||| (nI 1 <<< (nI k &&& 31))).toBitVec.getLsbD b = _
    rw [Int32.toBitVec_or, BitVec.getLsbD_or, shl_lsb hk hb]
    by_cases h : b = k
    · rw [if_pos h, decide_eq_true h, Bool.or_true]
    · rw [if_neg h, decide_eq_false h, Bool.or_false]
  | false =>
    show (x &&& ((nI 1 <<< (nI k &&& 31)) ^^^ (-1))).toBitVec.getLsbD b = _
    rw [Int32.toBitVec_and, BitVec.getLsbD_and, Int32.toBitVec_xor, BitVec.getLsbD_xor, shl_lsb hk hb]
    have e : ∀ b, b < 16 → (-1 : Int32).toBitVec.getLsbD b = true := by decide +kernel
    rw [e b hb]
    by_cases h : b = k
    · rw [if_pos h, decide_eq_true h]; simp
    · rw [if_neg h, decide_eq_false h]; simp
def rY (g : Nat → Nat → Int32) (z : Nat → Nat) : Prop :=
  yOK (g 14) (g 15) (g 16) (g 12) (g 13) (z 1) (z 0) ∧ (∃ X, dtg (g 14) (g 15) (g 16) (g 12) (g 13) (z 1) (z 0) X) ∧ lsF (g 14) (g 15) (g 16) (g 12) (z 1) (z 0) (g 17) ∧ lsL (g 14) (g 15) (g 16) (g 13) (z 1) (z 0) (g 18) ∧
  (∀ k, z 0 ≤ k → g 12 k = nI 0 ∧ g 13 k = nI 999 ∧ g 17 k = nI 0 ∧ g 18 k = nI 999) ∧ (∀ k, k < z 1 → q_r (g 14 k) 16 ∧ q_r (g 15 k) 16)
theorem q_r_mono {x : Int32} {n m : Nat} (h : q_r x n) (hm : n ≤ m) : q_r x m := by
  obtain ⟨j, h1, h2⟩ := h
  exact ⟨j, by omega, h2⟩
theorem cnt_pos {f : Nat → Int32} {w : Int32} {i : Nat} (h : f i = w) : ∀ n, i < n → 1 ≤ cntN f w n
  | 0, hi => by omega
  | n + 1, hi => by
    rw [cntN]
    by_cases e : i = n
    · subst e
      rw [if_pos h]; omega
    · have := cnt_pos h n (by omega)
      split <;> omega
theorem nI_0i : (nI 0).toInt = 0 := by decide +kernel
theorem nI_999i : (nI 999).toInt = 999 := by decide +kernel
/-- one mention more, bound to nothing -/
theorem rY_new {g : Nat → Nat → Int32} {z z2 : Nat → Nat} (h : rY g z) (h1 : z2 1 = z 1) (h0 : z2 0 = z 0 + 1) : rY g z2 := by
  unfold rY at *
  rw [h1, h0]
  obtain ⟨⟨hE, hw, hb⟩, ⟨X, x1, x2, x3⟩, hF, hL, hz, hq⟩ := h
  obtain ⟨a12, a13, a17, a18⟩ := hz (z 0) (Nat.le_refl _)
  have s : ∀ j, j < z 0 + 1 → j < z 0 ∨ j = z 0 := fun j hj => by omega
  have i12 : (g 12 (z 0)).toInt = 0 := by rw [a12, nI_0i]
  have i13 : (g 13 (z 0)).toInt = 999 := by rw [a13, nI_999i]
  have i17 : (g 17 (z 0)).toInt = 0 := by rw [a17, nI_0i]
  have i18 : (g 18 (z 0)).toInt = 999 := by rw [a18, nI_999i]
  refine ⟨⟨fun k hk => by have := hE k hk; omega, hw, fun j hj => ?_⟩, ⟨fun j => if j < z 0 then X j else 0, yP_ext hE (fun j hj => (if_pos hj).symm) x1, fun j hj => ?_, fun j hj => ?_⟩, ⟨hF.1, fun j hj => ?_, fun G hG hl j hj => ?_⟩, ⟨hL.1, fun j hj => ?_, fun G hG hl j hj => ?_⟩, fun k hk => hz k (by omega), hq⟩
  · rcases s j hj with q | q
    · exact hb j q
    · rw [q]; omega
  · show zI (g 12) j ≤ (if j < z 0 then X j else 0)
    rcases s j hj with q | q
    · rw [if_pos q]; exact x2 j q
    · rw [if_neg (by omega), q]; show (g 12 (z 0)).toInt ≤ 0; omega
  · show (if j < z 0 then X j else 0) ≤ zI (g 13) j
    rcases s j hj with q | q
    · rw [if_pos q]; exact x3 j q
    · rw [if_neg (by omega), q]; show 0 ≤ (g 13 (z 0)).toInt; omega
  · rcases s j hj with q | q
    · exact hF.2.1 j q
    · rw [q]; show (g 12 (z 0)).toInt ≤ (g 17 (z 0)).toInt; omega
  · rcases s j hj with q | q
    · exact hF.2.2 G hG (fun k hk => hl k (by omega)) j q
    · have h9 : (g 12 (z 0)).toInt ≤ G (z 0) := hl (z 0) (by omega)
      rw [q]; show (g 17 (z 0)).toInt ≤ G (z 0); omega
  · rcases s j hj with q | q
    · exact hL.2.1 j q
    · rw [q]; show -(g 13 (z 0)).toInt ≤ -(g 18 (z 0)).toInt; omega
  · rcases s j hj with q | q
    · exact hL.2.2 G hG (fun k hk => hl k (by omega)) j q
    · have h9 : -(g 13 (z 0)).toInt ≤ G (z 0) := hl (z 0) (by omega)
      rw [q]; show -(g 18 (z 0)).toInt ≤ G (z 0); omega
section YX
variable {a a' b b' : Nat → Nat} {w w' : Nat → Int} {t n : Nat} {lo lo' X X' : Nat → Int}
theorem yP_cgE (h : ∀ k, k < t → a' k = a k ∧ b' k = b k ∧ w' k = w k) (hX : yP a b w t X) : yP a' b' w' t X := fun k hk => by
  obtain ⟨h1, h2, h3⟩ := h k hk
  rw [h1, h2, h3]
  exact hX k hk
theorem yM_cgE (h : ∀ k, k < t → a' k = a k ∧ b' k = b k ∧ w' k = w k) (hM : yM a b w t n lo X) : yM a' b' w' t n lo X :=
  ⟨yP_cgE h hM.1, hM.2.1, fun G hG => hM.2.2 G (yP_cgE (fun k hk => ⟨(h k hk).1.symm, (h k hk).2.1.symm, (h k hk).2.2.symm⟩) hG)⟩
theorem yM_lo (h : ∀ j, j < n → lo j = lo' j) (hM : yM a b w t n lo X) : yM a b w t n lo' X :=
  ⟨hM.1, fun j hj => by rw [← h j hj]; exact hM.2.1 j hj, fun G hG hl => hM.2.2 G hG (fun j hj => by rw [h j hj]; exact hl j hj)⟩
theorem yM_hi {m : Nat} (hnm : n ≤ m) (h : ∀ j, n ≤ j → j < m → lo j = X j) (hM : yM a b w t n lo X) : yM a b w t m lo X := by
  refine ⟨hM.1, fun j hj => ?_, fun G hG hl j hj => ?_⟩
  · rcases Nat.lt_or_ge j n with q | q
    · exact hM.2.1 j q
    · rw [h j q hj]; exact Int.le_refl _
  · rcases Nat.lt_or_ge j n with q | q
    · exact hM.2.2 G hG (fun k hk => hl k (by omega)) j q
    · rw [← h j q hj]; exact hl j hj
end YX
theorem rY_ext {g g2 : Nat → Nat → Int32} {z : Nat → Nat} (h : ∀ k, k < z 1 → g2 14 k = g 14 k ∧ g2 15 k = g 15 k ∧ g2 16 k = g 16 k) (h12 : g2 12 = g 12) (h13 : g2 13 = g 13) (h17 : g2 17 = g 17) (h18 : g2 18 = g 18) (hY : rY g z) : rY g2 z := by
  unfold rY at *
  rw [h12, h13, h17, h18]
  obtain ⟨⟨hE, hw, hb⟩, ⟨X, x1, x2, x3⟩, hF, hL, hz, hq⟩ := hY
  have c : ∀ k, k < z 1 → zQ (g2 14) k = zQ (g 14) k ∧ zQ (g2 15) k = zQ (g 15) k ∧ zI (g2 16) k = zI (g 16) k := fun k hk => by
    obtain ⟨a1, a2, a3⟩ := h k hk
    unfold zQ zI
    rw [a1, a2, a3]
    exact ⟨rfl, rfl, rfl⟩
  refine ⟨⟨fun k hk => by rw [(c k hk).1, (c k hk).2.1]; exact hE k hk, fun k hk => by rw [(h k hk).2.2]; exact hw k hk, hb⟩, ⟨X, yP_cgE c x1, x2, x3⟩, yM_cgE c hF, yM_cgE (fun k hk => ⟨(c k hk).2.1, (c k hk).1, (c k hk).2.2⟩) hL, hz, fun k hk => by rw [(h k hk).1, (h k hk).2.1]; exact hq k hk⟩
theorem mvd_cg {F L F0 L0 F' L' F0' L0' : Nat → Int32} : ∀ n, (∀ j, j < n → F j = F' j ∧ L j = L' j ∧ F0 j = F0' j ∧ L0 j = L0' j) → mvd F L F0 L0 n = mvd F' L' F0' L0' n
  | 0, _ => rfl
  | n + 1, h => by
    obtain ⟨h1, h2, h3, h4⟩ := h n (by omega)
    rw [mvd, mvd, mvd_cg n (fun j hj => h j (by omega)), h1, h2, h3, h4]
theorem mvd_hi {F L F0 L0 : Nat → Int32} {n : Nat} (h : ∀ j, n ≤ j → F j = F0 j ∧ L j = L0 j) : ∀ d, mvd F L F0 L0 (n + d) = mvd F L F0 L0 n
  | 0 => rfl
  | d + 1 => by
    rw [← Nat.add_assoc, mvd, if_pos (h (n + d) (by omega)), mvd_hi h d]
theorem m50 : ((-50 : Int32)).toInt = -50 := by decide +kernel
theorem p50 : (nI 50).toInt = 50 := by decide +kernel
/-- one telling more -/
theorem yOK_add {g : Nat → Nat → Int32} {z : Nat → Nat} {i j : Nat} {w : Int32} (hY : rY g z) (hi : i < z 0) (hj : j < z 0) (hz : z 0 ≤ 16) (hw : ¬ w < (-50) ∧ w ≤ nI 50) : yOK (upd (g 14) (z 1) (nI i)) (upd (g 15) (z 1) (nI j)) (upd (g 16) (z 1) w) (g 12) (g 13) (z 1 + 1) (z 0) := by
  obtain ⟨⟨hE, hw2, hb⟩, -⟩ := hY
  rw [zz_lt, zz_le, m50, p50] at hw
  refine ⟨fun k hk => ?_, fun k hk => ?_, hb⟩
  · show q_n (if k = z 1 then nI i else g 14 k) < z 0 ∧ q_n (if k = z 1 then nI j else g 15 k) < z 0
    by_cases c : k = z 1
    · rw [if_pos c, if_pos c, q_n_nI (by omega), q_n_nI (by omega)]; exact ⟨hi, hj⟩
    · rw [if_neg c, if_neg c]; exact hE k (by omega)
  · show -50 ≤ (if k = z 1 then w else g 16 k).toInt ∧ (if k = z 1 then w else g 16 k).toInt ≤ 50
    by_cases c : k = z 1
    · rw [if_pos c]; omega
    · rw [if_neg c]; exact hw2 k (by omega)
theorem rY_hx {g : Nat → Nat → Int32} {z : Nat → Nat} (hY : rY g z) : ∀ j, z 0 ≤ j → j < 16 → g 12 j ≤ g 13 j := fun j hj _ => by
  obtain ⟨a, b, -⟩ := hY.2.2.2.2.1 j hj
  rw [a, b]; decide
theorem upd_o {f : Nat → Int32} {k j : Nat} {x : Int32} (h : ¬ j = k) : upd f k x j = f j := if_neg h
/-- years narrowed -/
theorem yOK_nar {g : Nat → Nat → Int32} {z : Nat → Nat} {k : Nat} {lo hi : Int32} (hY : rY g z) (hlo : ¬ lo < nI 0 ∧ lo ≤ nI 999) (hhi : ¬ hi < lo ∧ hi ≤ nI 999) : yOK (g 14) (g 15) (g 16) (upd (g 12) k (mx (g 12 k) lo)) (upd (g 13) k (mn (g 13 k) hi)) (z 1) (z 0) := by
  obtain ⟨⟨hE, hw2, hb⟩, -⟩ := hY
  rw [zz_lt, zz_le, nI_0i, nI_999i] at hlo
  rw [zz_lt, zz_le, nI_999i] at hhi
  refine ⟨hE, hw2, fun j hj => ?_⟩
  have := hb j hj
  show 0 ≤ (if j = k then mx (g 12 k) lo else g 12 j).toInt ∧ (if j = k then mx (g 12 k) lo else g 12 j).toInt ≤ 999 ∧ 0 ≤ (if j = k then mn (g 13 k) hi else g 13 j).toInt ∧ (if j = k then mn (g 13 k) hi else g 13 j).toInt ≤ 999
  by_cases c : j = k
  · subst c
    rw [if_pos rfl, if_pos rfl]
    rcases mx_3 (g 12 j) lo with q | q <;> rcases mn_3 (g 13 j) hi with r | r <;> rw [q.1, r.1] <;> omega
  · rw [if_neg c, if_neg c]; exact this
theorem rY_rg {g : Nat → Nat → Int32} {z : Nat → Nat} (hY : rY g z) : (∀ j, 0 ≤ (g 12 j).toInt ∧ (g 12 j).toInt ≤ 999 ∧ 0 ≤ (g 13 j).toInt ∧ (g 13 j).toInt ≤ 999) ∧ (∀ j, 0 ≤ (g 17 j).toInt ∧ (g 17 j).toInt ≤ 999) ∧ (∀ j, 0 ≤ (g 18 j).toInt ∧ (g 18 j).toInt ≤ 999) := by
  obtain ⟨⟨hE, hw2, hb⟩, ⟨X, x1, x2, x3⟩, hF, hL, hz, -⟩ := hY
  refine ⟨fun j => ?_, fun j => ?_, fun j => ?_⟩
  · rcases Nat.lt_or_ge j (z 0) with q | q
    · exact hb j q
    · obtain ⟨a1, a2, a3, a4⟩ := hz j q
      rw [a1, a2, nI_0i, nI_999i]; decide
  · rcases Nat.lt_or_ge j (z 0) with q | q
    · have b1 := hb j q
      have b2 : (g 12 j).toInt ≤ (g 17 j).toInt := hF.2.1 j q
      have b3 : (g 17 j).toInt ≤ X j := hF.2.2 X x1 x2 j q
      have b4 : X j ≤ (g 13 j).toInt := x3 j q
      omega
    · obtain ⟨a1, a2, a3, a4⟩ := hz j q
      rw [a3, nI_0i]; decide
  · rcases Nat.lt_or_ge j (z 0) with q | q
    · have b1 := hb j q
      have b2 : -(g 13 j).toInt ≤ -(g 18 j).toInt := hL.2.1 j q
      have b3 : -(g 18 j).toInt ≤ -X j := hL.2.2 _ (yP_neg x1) (fun k hk => by have b9 : X k ≤ (g 13 k).toInt := x3 k hk; show -(g 13 k).toInt ≤ -X k; omega) j q
      have b4 : (g 12 j).toInt ≤ X j := x2 j q
      omega
    · obtain ⟨a1, a2, a3, a4⟩ := hz j q
      rw [a4, nI_999i]; decide
/-- the years by ways are the years -/
theorem ways_ok {g : Nat → Nat → Int32} {z : Nat → Nat} (hY : rY g z) (hz : z 0 ≤ 16) {k : Nat} (hk : k < z 0) : fstW (g 12) (allW (g 14) (g 15) (g 16) (z 1)) k 16 = g 17 k ∧ lstW (g 13) (allW (g 14) (g 15) (g 16) (z 1)) k 16 = g 18 k := by
  obtain ⟨r1, r2, r3⟩ := rY_rg hY
  obtain ⟨⟨hE, hw2, hb⟩, -, hF, hL, hz9, -⟩ := hY
  have hE16 : yE (zQ (g 14)) (zQ (g 15)) (z 1) 16 := fun q hq => by have := hE q hq; omega
  have hI := all_in hw2 hE16 hF.1 (fun j _ => r2 j)
  have hF16 : lsF (g 14) (g 15) (g 16) (g 12) (z 1) 16 (g 17) := yM_hi hz (fun j hj _ => by show (g 12 j).toInt = (g 17 j).toInt; rw [(hz9 j hj).1, (hz9 j hj).2.2.1]) hF
  have hL16 : lsL (g 14) (g 15) (g 16) (g 13) (z 1) 16 (g 18) := yM_hi hz (fun j hj _ => by show -(g 13 j).toInt = -(g 18 j).toInt; rw [(hz9 j hj).2.1, (hz9 j hj).2.2.2]) hL
  exact ⟨fst_ok hI hE16 hF16 (fun j _ => ⟨(r1 j).1, (r1 j).2.1⟩) (fun j _ => r2 j) (by omega), lst_ok hI hE16 hL16 (fun j _ => (r1 j).2.2) (fun j _ => r3 j) (by omega)⟩
/-- persons: each mention belongs to a number that leads to itself -/
def rP (g : Nat → Nat → Int32) (z : Nat → Nat) : Prop :=
  (∀ k, k < z 0 → q_r (g 22 k) (z 2)) ∧ (∀ k, z 0 ≤ k → g 22 k = nI 0) ∧ (∀ k, k < z 2 → q_r (g 23 k) (z 2)) ∧ (∀ k, k < z 0 → g 23 (q_n (g 22 k)) = g 22 k) ∧ z 0 ≤ 16 ∧ z 1 ≤ 40 ∧ z 2 ≤ 40
def rK (g : Nat → Nat → Int32) (z : Nat → Nat) : Prop := (∀ k, g 5 k ≤ nI 9) ∧ (∀ k, g 4 k ≤ nI 15)
/-- behind the ends of the rows -/
def rO (g : Nat → Nat → Int32) : Prop :=
  (∀ k, 16 ≤ k → g 0 k = nI 0 ∧ g 1 k = nI 0 ∧ g 2 k = nI 0 ∧ g 3 k = nI 0 ∧ g 4 k = nI 0 ∧ g 9 k = nI 0 ∧ g 10 k = nI 0 ∧ g 11 k = nI 0) ∧ (∀ k, 8 ≤ k → g 5 k = nI 0 ∧ g 8 k = nI 0) ∧ (∀ k, 40 ≤ k → g 14 k = nI 0 ∧ g 15 k = nI 0 ∧ g 16 k = nI 0 ∧ g 23 k = nI 0)
def inv (g : Nat → Nat → Int32) (z : Nat → Nat) : Prop := rY g z ∧ rP g z ∧ rK g z ∧ rO g
section IV
variable {g : Nat → Nat → Int32} {z : Nat → Nat}
theorem inv.hz0 (h : inv g z) : z 0 ≤ 16 := h.2.1.2.2.2.2.1
theorem inv.hz1 (h : inv g z) : z 1 ≤ 40 := h.2.1.2.2.2.2.2.1
theorem inv.hz2 (h : inv g z) : z 2 ≤ 40 := h.2.1.2.2.2.2.2.2
theorem inv.hE (h : inv g z) : ∀ k, k < z 1 → q_r (g 14 k) 16 ∧ q_r (g 15 k) 16 := h.1.2.2.2.2.2
theorem inv.own (h : inv g z) : ∀ k, k < z 0 → q_r (g 22 k) (z 2) := h.2.1.1
theorem inv.own40 (h : inv g z) : ∀ k, k < z 0 → q_r (g 22 k) 40 := fun k hk => q_r_mono (h.own k hk) h.hz2
theorem inv.lead (h : inv g z) : ∀ k, k < z 2 → q_r (g 23 k) (z 2) := h.2.1.2.2.1
theorem inv.lead40 (h : inv g z) : ∀ k, k < z 2 → q_r (g 23 k) 40 := fun k hk => q_r_mono (h.lead k hk) h.hz2
theorem inv.self (h : inv g z) : ∀ k, k < z 0 → g 23 (q_n (g 22 k)) = g 22 k := h.2.1.2.2.2.1
theorem upd_s {f : Nat → Int32} {k : Nat} {x : Int32} : upd f k x k = x := if_pos rfl
theorem updO {f : Nat → Int32} {n k : Nat} {x : Int32} (hk : k < n) (h : ∀ j, n ≤ j → f j = nI 0) : ∀ j, n ≤ j → upd f k x j = nI 0 := fun j hj => (upd_o (by omega)).trans (h j hj)
theorem tellO {f : Nat → Int32} {n i j : Nat} {b : Bool} (hi : i < n) (hj : j < n) (h : ∀ k, n ≤ k → f k = nI 0) : ∀ k, n ≤ k → tellF b f i j k = nI 0 := fun k hk => by
  show (upd (upd f i _) j _) k = nI 0
  rw [upd_o (by omega), upd_o (by omega)]
  exact h k hk
theorem updLe {f : Nat → Int32} {k : Nat} {x B : Int32} (hx : x ≤ B) (h : ∀ j, f j ≤ B) : ∀ j, upd f k x j ≤ B := fun j => by
  show (if j = k then x else f j) ≤ B
  split
  · exact hx
  · exact h j
/-- a mention more -/
theorem iv_mention (h : inv g z) (nm fm pl po : Int32) (h16 : z 0 < 16) (h40 : z 2 < 40) : inv (gs (gs (gs (gs (gs (gs (gs g 0 (upd (g 0) (z 0) nm)) 1 (upd (g 1) (z 0) fm)) 2 (upd (g 2) (z 0) pl)) 3 (upd (g 3) (z 0) po)) 4 (upd (g 4) (z 0) (-1))) 22 (upd (g 22) (z 0) (nI (z 2)))) 23 (upd (g 23) (z 2) (nI (z 2)))) (zs (zs z 0 ((z 0) + 1)) 2 ((z 2) + 1)) := by
  obtain ⟨hY, ⟨p1, p2, p3, p4, p5, p6, p7⟩, ⟨k1, k2⟩, ⟨o1, o2, o3⟩⟩ := h
  have hz : ∀ k, k < z 0 + 1 → ¬ k = z 0 → k < z 0 := fun k a b => by omega
  refine ⟨rY_new hY rfl rfl, ⟨fun k hk => ?_, fun k hk => ?_, fun k hk => ?_, fun k hk => ?_, (by show z 0 + 1 ≤ 16; omega), p6, (by show z 2 + 1 ≤ 40; omega)⟩, ⟨k1, updLe (by decide +kernel) k2⟩, ⟨fun k hk => ?_, o2, fun k hk => ?_⟩⟩
  · have hk2 : k < z 0 + 1 := hk
    show q_r (if k = z 0 then nI (z 2) else g 22 k) (z 2 + 1)
    by_cases c : k = z 0
    · rw [if_pos c]; exact q_r_nI (by omega)
    · rw [if_neg c]; exact q_r_mono (p1 k (by omega)) (by omega)
  · have hk2 : z 0 + 1 ≤ k := hk
    show (if k = z 0 then nI (z 2) else g 22 k) = nI 0
    rw [if_neg (by omega)]; exact p2 k (by omega)
  · have hk2 : k < z 2 + 1 := hk
    show q_r (if k = z 2 then nI (z 2) else g 23 k) (z 2 + 1)
    by_cases c : k = z 2
    · rw [if_pos c]; exact q_r_nI (by omega)
    · rw [if_neg c]; exact q_r_mono (p3 k (by omega)) (by omega)
  · have hk2 : k < z 0 + 1 := hk
    show upd (g 23) (z 2) (nI (z 2)) (q_n (upd (g 22) (z 0) (nI (z 2)) k)) = upd (g 22) (z 0) (nI (z 2)) k
    by_cases c : k = z 0
    · rw [c, upd_s, q_n_nI (by omega), upd_s]
    · rw [upd_o c]
      have q1 := (p1 k (by omega)).lt (by omega)
      rw [upd_o (by omega)]
      exact p4 k (by omega)
  · obtain ⟨a0, a1, a2, a3, a4, a9, a10, a11⟩ := o1 k hk
    exact ⟨(upd_o (by omega)).trans a0, (upd_o (by omega)).trans a1, (upd_o (by omega)).trans a2, (upd_o (by omega)).trans a3, (upd_o (by omega)).trans a4, a9, a10, a11⟩
  · obtain ⟨b1, b2, b3, b4⟩ := o3 k hk
    exact ⟨b1, b2, b3, (upd_o (by omega)).trans b4⟩
theorem iv_rank (h : inv g z) {i : Nat} {rk : Int32} (hi : i < 8) (hrk : rk ≤ nI 9) : inv (gs g 5 (upd (g 5) i rk)) z :=
  ⟨h.1, h.2.1, ⟨updLe hrk h.2.2.1.1, h.2.2.1.2⟩, ⟨h.2.2.2.1, fun k hk => ⟨(upd_o (by omega)).trans (h.2.2.2.2.1 k hk).1, (h.2.2.2.2.1 k hk).2⟩, h.2.2.2.2.2⟩⟩
theorem iv_bar (h : inv g z) {i j : Nat} {b : Bool} (hi : i < 8) (hj : j < 8) : inv (gs g 8 (tellF b (g 8) i j)) z :=
  ⟨h.1, h.2.1, h.2.2.1, ⟨h.2.2.2.1, fun k hk => ⟨(h.2.2.2.2.1 k hk).1, tellO hi hj (fun q hq => (h.2.2.2.2.1 q hq).2) k hk⟩, h.2.2.2.2.2⟩⟩
theorem iv_seal (h : inv g z) {i j : Nat} {b : Bool} (hi : i < z 0) (hj : j < z 0) : inv (gs g 9 (tellF b (g 9) i j)) z := by
  have hz := h.hz0
  exact ⟨h.1, h.2.1, h.2.2.1, ⟨fun k hk => ⟨(h.2.2.2.1 k hk).1, (h.2.2.2.1 k hk).2.1, (h.2.2.2.1 k hk).2.2.1, (h.2.2.2.1 k hk).2.2.2.1, (h.2.2.2.1 k hk).2.2.2.2.1, tellO (n := 16) (by omega) (by omega) (fun q hq => (h.2.2.2.1 q hq).2.2.2.2.2.1) k hk, (h.2.2.2.1 k hk).2.2.2.2.2.2⟩, h.2.2.2.2⟩⟩
theorem iv_block (h : inv g z) {i j : Nat} {b : Bool} (hi : i < z 0) (hj : j < z 0) : inv (gs g 10 (tellF b (g 10) i j)) z := by
  have hz := h.hz0
  exact ⟨h.1, h.2.1, h.2.2.1, ⟨fun k hk => ⟨(h.2.2.2.1 k hk).1, (h.2.2.2.1 k hk).2.1, (h.2.2.2.1 k hk).2.2.1, (h.2.2.2.1 k hk).2.2.2.1, (h.2.2.2.1 k hk).2.2.2.2.1, (h.2.2.2.1 k hk).2.2.2.2.2.1, tellO (n := 16) (by omega) (by omega) (fun q hq => (h.2.2.2.1 q hq).2.2.2.2.2.2.1) k hk, (h.2.2.2.1 k hk).2.2.2.2.2.2.2⟩, h.2.2.2.2⟩⟩
theorem iv_kin (h : inv g z) {i j : Nat} {b : Bool} (hi : i < z 0) (hj : j < z 0) : inv (gs g 11 (tellF b (g 11) i j)) z := by
  have hz := h.hz0
  exact ⟨h.1, h.2.1, h.2.2.1, ⟨fun k hk => ⟨(h.2.2.2.1 k hk).1, (h.2.2.2.1 k hk).2.1, (h.2.2.2.1 k hk).2.2.1, (h.2.2.2.1 k hk).2.2.2.1, (h.2.2.2.1 k hk).2.2.2.2.1, (h.2.2.2.1 k hk).2.2.2.2.2.1, (h.2.2.2.1 k hk).2.2.2.2.2.2.1, tellO (n := 16) (by omega) (by omega) (fun q hq => (h.2.2.2.1 q hq).2.2.2.2.2.2.2) k hk⟩, h.2.2.2.2⟩⟩
theorem iv_rival (h : inv g z) {k : Nat} {lb : Int32} (hk : k < z 0) (hlb : lb ≤ nI 15) : inv (gs g 4 (upd (g 4) k lb)) z := by
  have hz := h.hz0
  exact ⟨h.1, h.2.1, ⟨h.2.2.1.1, updLe hlb h.2.2.1.2⟩, ⟨fun q hq => ⟨(h.2.2.2.1 q hq).1, (h.2.2.2.1 q hq).2.1, (h.2.2.2.1 q hq).2.2.1, (h.2.2.2.1 q hq).2.2.2.1, (upd_o (by omega)).trans (h.2.2.2.1 q hq).2.2.2.2.1, (h.2.2.2.1 q hq).2.2.2.2.2⟩, h.2.2.2.2⟩⟩
theorem iv_split (h : inv g z) {i : Nat} (hi : i < z 0) (h40 : z 2 < 40) : inv (gs (gs g 22 (upd (g 22) i (nI (z 2)))) 23 (upd (g 23) (z 2) (nI (z 2)))) (zs z 2 ((z 2) + 1)) := by
  obtain ⟨hY, ⟨p1, p2, p3, p4, p5, p6, p7⟩, hK, ⟨o1, o2, o3⟩⟩ := h
  refine ⟨hY, ⟨fun k hk => ?_, fun k hk => ?_, fun k hk => ?_, fun k hk => ?_, p5, p6, (by show z 2 + 1 ≤ 40; omega)⟩, hK, ⟨o1, o2, fun k hk => ?_⟩⟩
  · show q_r (if k = i then nI (z 2) else g 22 k) (z 2 + 1)
    split
    · exact q_r_nI (by omega)
    · exact q_r_mono (p1 k hk) (by omega)
  · have hk2 : z 0 ≤ k := hk
    show (if k = i then nI (z 2) else g 22 k) = nI 0
    rw [if_neg (by omega)]; exact p2 k hk2
  · have hk2 : k < z 2 + 1 := hk
    show q_r (if k = z 2 then nI (z 2) else g 23 k) (z 2 + 1)
    by_cases c : k = z 2
    · rw [if_pos c]; exact q_r_nI (by omega)
    · rw [if_neg c]; exact q_r_mono (p3 k (by omega)) (by omega)
  · have hk2 : k < z 0 := hk
    show upd (g 23) (z 2) (nI (z 2)) (q_n (upd (g 22) i (nI (z 2)) k)) = upd (g 22) i (nI (z 2)) k
    by_cases c : k = i
    · rw [c, upd_s, q_n_nI (by omega), upd_s]
    · rw [upd_o c]
      have q1 := (p1 k hk2).lt (by omega)
      rw [upd_o (by omega)]
      exact p4 k hk2
  · obtain ⟨b1, b2, b3, b4⟩ := o3 k hk
    exact ⟨b1, b2, b3, (upd_o (by omega)).trans b4⟩
theorem iv_join (h : inv g z) {i j : Nat} (hi : i < z 0) (hj : j < z 0) (hne : ¬ g 22 i = g 22 j) : inv (gs (gs g 22 (repl (g 22) (nI (max (q_n (g 22 i)) (q_n (g 22 j)))) (nI (min (q_n (g 22 i)) (q_n (g 22 j)))) 16)) 23 (repl (g 23) (nI (max (q_n (g 22 i)) (q_n (g 22 j)))) (nI (min (q_n (g 22 i)) (q_n (g 22 j)))) (z 2))) z := by
  obtain ⟨hY, ⟨p1, p2, p3, p4, p5, p6, p7⟩, hK, ⟨o1, o2, o3⟩⟩ := h
  have q1 := p1 i hi
  have q2 := p1 j hj
  have l1 := q1.lt (by omega)
  have l2 := q2.lt (by omega)
  have n12 : ¬ q_n (g 22 i) = q_n (g 22 j) := fun q => hne (by rw [q1.eq (by omega), q2.eq (by omega), q])
  obtain ⟨mi, hmi⟩ : ∃ y, y = min (q_n (g 22 i)) (q_n (g 22 j)) := ⟨_, rfl⟩
  obtain ⟨ma, hma⟩ : ∃ y, y = max (q_n (g 22 i)) (q_n (g 22 j)) := ⟨_, rfl⟩
  have hmm : mi < z 2 ∧ 0 < ma ∧ ma < z 2 ∧ mi < ma := by rw [hmi, hma, Nat.min_def, Nat.max_def]; split <;> omega
  have hself : ∃ k, k < z 0 ∧ g 22 k = nI mi := by
    rw [hmi, Nat.min_def]
    split
    · exact ⟨i, hi, q1.eq (by omega)⟩
    · exact ⟨j, hj, q2.eq (by omega)⟩
  rw [← hmi, ← hma]
  have er : ∀ (q : Nat → Int32) n b, (∀ k, k < b → q_r (q k) (z 2)) → ∀ k, k < b → q_r (repl q (nI ma) (nI mi) n k) (z 2) := fun q n b hq k hk => by
    show q_r (if k < n ∧ q k = nI ma then nI mi else q k) (z 2)
    split
    · exact q_r_nI hmm.1
    · exact hq k hk
  refine ⟨hY, ⟨er (g 22) 16 _ p1, fun k hk => ?_, er (g 23) (z 2) _ p3, fun k hk => ?_, p5, p6, p7⟩, hK, ⟨o1, o2, fun k hk => ?_⟩⟩
  · show (if k < 16 ∧ g 22 k = nI ma then nI mi else g 22 k) = nI 0
    rw [if_neg (fun c => by rw [p2 k hk] at c; have := (nI_eq (a := 0) (b := ma) (by omega) (by omega)).1 c.2; omega)]
    exact p2 k hk
  · have hk2 : k < z 0 := hk
    show repl (g 23) (nI ma) (nI mi) (z 2) (q_n (if k < 16 ∧ g 22 k = nI ma then nI mi else g 22 k)) = (if k < 16 ∧ g 22 k = nI ma then nI mi else g 22 k)
    by_cases c : g 22 k = nI ma
    · rw [if_pos ⟨by omega, c⟩, q_n_nI (by omega)]
      show (if mi < z 2 ∧ g 23 mi = nI ma then nI mi else g 23 mi) = nI mi
      obtain ⟨k0, hk0, e0⟩ := hself
      have e1 := p4 k0 hk0
      rw [e0, q_n_nI (by omega)] at e1
      rw [if_neg (fun c9 => by rw [e1] at c9; have := (nI_eq (a := mi) (b := ma) (by omega) (by omega)).1 c9.2; omega)]
      exact e1
    · rw [if_neg (fun c9 => c c9.2)]
      show (if q_n (g 22 k) < z 2 ∧ g 23 (q_n (g 22 k)) = nI ma then nI mi else g 23 (q_n (g 22 k))) = g 22 k
      rw [p4 k hk2, if_neg (fun c9 => c c9.2)]
  · obtain ⟨b1, b2, b3, b4⟩ := o3 k hk
    refine ⟨b1, b2, b3, ?_⟩
    show (if k < z 2 ∧ g 23 k = nI ma then nI mi else g 23 k) = nI 0
    rw [if_neg (fun c => by omega)]
    exact b4
/-- a telling that leaves a dating -/
theorem iv_ahead (h : inv g z) {i j : Nat} {w : Int32} (hi : i < z 0) (hj : j < z 0) (hw : ¬ w < (-50) ∧ w ≤ nI 50) (h40 : z 1 < 40) (X Y : Nat → Int32) (hd : dOK (upd (g 14) (z 1) (nI i)) (upd (g 15) (z 1) (nI j)) (upd (g 16) (z 1) w) (g 12) (g 13) (z 1 + 1) = true) :
    inv (gs (gs (gs (gs (gs (gs (gs g 14 (upd (g 14) (z 1) (nI i))) 15 (upd (g 15) (z 1) (nI j))) 16 (upd (g 16) (z 1) w)) 17 (itF (upd (g 14) (z 1) (nI i)) (upd (g 15) (z 1) (nI j)) (upd (g 16) (z 1) w) (g 12) (z 1 + 1) 16)) 18 (itL (upd (g 14) (z 1) (nI i)) (upd (g 15) (z 1) (nI j)) (upd (g 16) (z 1) w) (g 13) (z 1 + 1) 16)) 19 X) 20 Y) (zs z 1 (z 1 + 1)) := by
  have hz := h.hz0
  obtain ⟨hY, ⟨p1, p2, p3, p4, p5, p6, p7⟩, hK, ⟨o1, o2, o3⟩⟩ := h
  have hOK := yOK_add hY hi hj hz hw
  have hX := cl_2 hOK hz (by omega) hd
  obtain ⟨-, f2, f3⟩ := cl_1 hOK hz (by omega) (rY_hx hY) hX
  have ot := fun (k : Nat) (hk : z 0 ≤ k) => it_out (W := upd (g 16) (z 1) w) (lo := g 12) (hi := g 13) hOK.1 hk 16
  refine ⟨⟨hOK, hX, f2, f3, (fun k hk => ?_), hE_add hY.2.2.2.2.2 (by omega) (by omega)⟩, ⟨p1, p2, p3, p4, p5, (by show z 1 + 1 ≤ 40; omega), p7⟩, hK, ⟨o1, o2, fun k hk => ?_⟩⟩
  · obtain ⟨a1, a2, a3, a4⟩ := hY.2.2.2.2.1 k hk
    exact ⟨a1, a2, (ot k hk).1.trans a1, (ot k hk).2.trans a2⟩
  · obtain ⟨b1, b2, b3, b4⟩ := o3 k hk
    exact ⟨(upd_o (by omega)).trans b1, (upd_o (by omega)).trans b2, (upd_o (by omega)).trans b3, b4⟩
/-- a telling that is refused -/
theorem iv_aheadx (h : inv g z) {i j : Nat} {w : Int32} (h40 : z 1 < 40) (X Y : Nat → Int32) :
    inv (gs (gs (gs (gs (gs (gs (gs g 14 (upd (g 14) (z 1) (nI i))) 15 (upd (g 15) (z 1) (nI j))) 16 (upd (g 16) (z 1) w)) 17 (g 17)) 18 (g 18)) 19 X) 20 Y) z := by
  obtain ⟨hY, hP, hK, ⟨o1, o2, o3⟩⟩ := h
  refine ⟨rY_ext (g := g) (fun k hk => ?_) rfl rfl rfl rfl hY, hP, hK, ⟨o1, o2, fun k hk => ?_⟩⟩
  · have hk2 : k < z 1 := hk
    exact ⟨upd_o (by omega), upd_o (by omega), upd_o (by omega)⟩
  · obtain ⟨b1, b2, b3, b4⟩ := o3 k hk
    exact ⟨(upd_o (by omega)).trans b1, (upd_o (by omega)).trans b2, (upd_o (by omega)).trans b3, b4⟩
theorem iv_find (h : inv g z) {i : Nat} {lo hi : Int32} (hk : i < z 0) (hlo : ¬ lo < nI 0 ∧ lo ≤ nI 999) (hhi : ¬ hi < lo ∧ hi ≤ nI 999) (X Y : Nat → Int32) (hd : dOK (g 14) (g 15) (g 16) (upd (g 12) i (mx ((g 12) i) lo)) (upd (g 13) i (mn ((g 13) i) hi)) (z 1) = true) :
    inv (gs (gs (gs (gs (gs (gs g 12 (upd (g 12) i (mx ((g 12) i) lo))) 13 (upd (g 13) i (mn ((g 13) i) hi))) 17 (itF (g 14) (g 15) (g 16) (upd (g 12) i (mx ((g 12) i) lo)) (z 1) 16)) 18 (itL (g 14) (g 15) (g 16) (upd (g 13) i (mn ((g 13) i) hi)) (z 1) 16)) 19 X) 20 Y) z := by
  have hz := h.hz0
  have hz1 := h.hz1
  obtain ⟨hY, hP, hK, hO⟩ := h
  have hOK := yOK_nar (k := i) hY hlo hhi
  obtain ⟨lo2, hlo2⟩ : ∃ y, y = mx (g 12 i) lo := ⟨_, rfl⟩
  obtain ⟨hi2, hhi2⟩ : ∃ y, y = mn (g 13 i) hi := ⟨_, rfl⟩
  rw [← hlo2, ← hhi2] at hOK hd ⊢
  have hx9 : ∀ j, z 0 ≤ j → j < 16 → upd (g 12) i lo2 j ≤ upd (g 13) i hi2 j := fun j hj hj2 => by rw [upd_o (by omega), upd_o (by omega)]; exact rY_hx hY j hj hj2
  have hX := cl_2 hOK hz hz1 hd
  obtain ⟨-, f2, f3⟩ := cl_1 hOK hz hz1 hx9 hX
  have ot := fun (k : Nat) (hk : z 0 ≤ k) => it_out (W := g 16) (lo := upd (g 12) i lo2) (hi := upd (g 13) i hi2) hOK.1 hk 16
  refine ⟨⟨hOK, hX, f2, f3, (fun k hk => ?_), hY.2.2.2.2.2⟩, hP, hK, hO⟩
  have hk2 : z 0 ≤ k := hk
  obtain ⟨a1, a2, a3, a4⟩ := hY.2.2.2.2.1 k hk2
  exact ⟨(upd_o (by omega)).trans a1, (upd_o (by omega)).trans a2, (ot k hk2).1.trans ((upd_o (by omega)).trans a1), (ot k hk2).2.trans ((upd_o (by omega)).trans a2)⟩
end IV
abbrev g5_0 : Nat → Nat → Int32 := gs (gs (gs (fun _ _ => nI 0) 13 (fun _ => nI 999)) 18 (fun _ => nI 999)) 5 (upd (upd (upd (upd (upd (upd (upd (upd (fun _ => nI 0) 0 (nI 0)) 1 (nI 1)) 2 (nI 2)) 3 (nI 3)) 4 (nI 4)) 5 (nI 5)) 6 (nI 6)) 7 (nI 7))
theorem iv_new : inv g5_0 (fun _ => 0) := by
  have n0 : ∀ {P : Nat → Prop} k, k < 0 → P k := fun k h => absurd h (Nat.not_lt_zero k)
  refine ⟨⟨⟨n0, n0, n0⟩, ⟨fun _ => 0, n0, n0, n0⟩, ⟨n0, n0, fun G _ _ => n0⟩, ⟨n0, n0, fun G _ _ => n0⟩, fun k _ => ⟨rfl, rfl, rfl, rfl⟩, n0⟩, ⟨n0, fun k _ => rfl, n0, n0, by decide, by decide, by decide⟩, ⟨fun k => ?_, fun k => ?_⟩, ⟨fun k hk => ⟨rfl, rfl, rfl, rfl, rfl, rfl, rfl, rfl⟩, fun k hk => ⟨?_, rfl⟩, fun k hk => ⟨rfl, rfl, rfl, rfl⟩⟩⟩
  · exact updLe (by decide +kernel) (updLe (by decide +kernel) (updLe (by decide +kernel) (updLe (by decide +kernel) (updLe (by decide +kernel) (updLe (by decide +kernel) (updLe (by decide +kernel) (updLe (by decide +kernel) (fun _ => by decide +kernel)))))))) k
  · show nI 0 ≤ nI 15
    decide +kernel
  · show (upd (upd (upd (upd (upd (upd (upd (upd (fun _ => nI 0) 0 (nI 0)) 1 (nI 1)) 2 (nI 2)) 3 (nI 3)) 4 (nI 4)) 5 (nI 5)) 6 (nI 6)) 7 (nI 7)) k = nI 0
    rw [upd_o (by omega), upd_o (by omega), upd_o (by omega), upd_o (by omega), upd_o (by omega), upd_o (by omega), upd_o (by omega), upd_o (by omega)]
