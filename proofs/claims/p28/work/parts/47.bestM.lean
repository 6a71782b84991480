/-! sums over pairs m < k -/
def RSm (f : Nat → Nat → Int) (k : Nat) : Nat → Int
  | 0 => 0
  | m + 1 => RSm f k m + f m k
def PSm (f : Nat → Nat → Int) : Nat → Int
  | 0 => 0
  | k + 1 => PSm f k + RSm f k k
theorem RSm_add {f g h : Nat → Nat → Int} {k : Nat} : ∀ m, (∀ i, i < m → f i k = g i k + h i k) → RSm f k m = RSm g k m + RSm h k m
  | 0, _ => rfl
  | m + 1, e => by
    rw [RSm, RSm, RSm, RSm_add m (fun i hi => e i (by omega)), e m (by omega)]
    omega
theorem PSm_add {f g h : Nat → Nat → Int} : ∀ c, (∀ m k, m < k → k < c → f m k = g m k + h m k) → PSm f c = PSm g c + PSm h c
  | 0, _ => rfl
  | c + 1, e => by
    rw [PSm, PSm, PSm, PSm_add c (fun m k h1 h2 => e m k h1 (by omega)), RSm_add c (fun i hi => e i c hi (by omega))]
    omega
theorem RSm_0 {f : Nat → Nat → Int} {k : Nat} : ∀ m, (∀ i, i < m → f i k = 0) → RSm f k m = 0
  | 0, _ => rfl
  | m + 1, e => by rw [RSm, RSm_0 m (fun i hi => e i (by omega)), e m (by omega)]; rfl
theorem PSm_0 {f : Nat → Nat → Int} : ∀ c, (∀ m k, m < k → k < c → f m k = 0) → PSm f c = 0
  | 0, _ => rfl
  | c + 1, e => by rw [PSm, PSm_0 c (fun m k h1 h2 => e m k h1 (by omega)), RSm_0 c (fun i hi => e i c hi (by omega))]; rfl
theorem PSm_cg {f g : Nat → Nat → Int} (c : Nat) (e : ∀ m k, m < k → k < c → f m k = g m k) : PSm f c = PSm g c := by
  have h := PSm_add (f := f) (g := g) (h := fun _ _ => 0) c (fun m k h1 h2 => by rw [e m k h1 h2]; omega)
  rw [h, PSm_0 (f := fun _ _ => 0) c (fun _ _ _ _ => rfl)]
  omega
theorem RSm_b {f : Nat → Nat → Int} {k : Nat} {B : Int} : ∀ m : Nat, (∀ i, i < m → f i k ≤ B) → RSm f k m ≤ B * m
  | 0, _ => by simp [RSm]
  | m + 1, e => by
    have ih := RSm_b m (fun i hi => e i (by omega))
    have h1 := e m (by omega)
    rw [RSm, Int.natCast_add, Int.mul_add]
    omega
theorem RSm_l {f : Nat → Nat → Int} {k : Nat} {B : Int} : ∀ m : Nat, (∀ i, i < m → B ≤ f i k) → B * m ≤ RSm f k m
  | 0, _ => by simp [RSm]
  | m + 1, e => by
    have ih := RSm_l m (fun i hi => e i (by omega))
    have h1 := e m (by omega)
    rw [RSm, Int.natCast_add, Int.mul_add]
    omega
theorem RSm_x {f : Nat → Nat → Int} {k m0 : Nat} {B : Int} (hB : 0 ≤ B) : ∀ m : Nat, m0 < m → (∀ i, i < m → f i k ≤ B) → RSm f k m ≤ f m0 k + B * m
  | 0, h, _ => by omega
  | m + 1, h, e => by
    have h1 := e m (by omega)
    rw [RSm, Int.natCast_add, Int.mul_add]
    by_cases c : m0 = m
    · subst c
      have := RSm_b m0 (fun i hi => e i (by omega))
      omega
    · have ih := RSm_x (m0 := m0) hB m (by omega) (fun i hi => e i (by omega))
      omega
theorem PSm_b {f : Nat → Nat → Int} {B : Int} (hB : 0 ≤ B) : ∀ c : Nat, c ≤ 6 → (∀ m k, m < k → k < c → f m k ≤ B) → PSm f c ≤ 6 * B * c
  | 0, _, _ => by simp [PSm]
  | c + 1, hc, e => by
    have ih := PSm_b hB c (by omega) (fun m k h1 h2 => e m k h1 (by omega))
    have h1 := RSm_b c (fun i hi => e i c hi (by omega))
    have h2 : B * c ≤ B * 6 := Int.mul_le_mul_of_nonneg_left (by omega) hB
    rw [PSm, Int.natCast_add, Int.mul_add]
    omega
theorem PSm_l {f : Nat → Nat → Int} {B : Int} (hB : B ≤ 0) : ∀ c : Nat, c ≤ 6 → (∀ m k, m < k → k < c → B ≤ f m k) → 6 * B * c ≤ PSm f c
  | 0, _, _ => by simp [PSm]
  | c + 1, hc, e => by
    have ih := PSm_l hB c (by omega) (fun m k h1 h2 => e m k h1 (by omega))
    have h1 := RSm_l c (fun i hi => e i c hi (by omega))
    have h2 : B * 6 ≤ B * c := Int.mul_le_mul_of_nonpos_left hB (by omega)
    rw [PSm, Int.natCast_add, Int.mul_add]
    omega
theorem PSm_x {f : Nat → Nat → Int} {B : Int} {m0 k0 : Nat} (hB : 0 ≤ B) (hm : m0 < k0) : ∀ c : Nat, c ≤ 6 → k0 < c → (∀ m k, m < k → k < c → f m k ≤ B) → PSm f c ≤ f m0 k0 + 6 * B * c
  | 0, _, h, _ => by omega
  | c + 1, hc, h, e => by
    have h2 : B * c ≤ B * 6 := Int.mul_le_mul_of_nonneg_left (by omega) hB
    rw [PSm, Int.natCast_add, Int.mul_add]
    by_cases ck : k0 = c
    · subst ck
      have h1 := PSm_b hB k0 (by omega) (fun m k h1 h2 => e m k h1 (by omega))
      have h3 := RSm_x hB k0 hm (fun i hi => e i k0 hi (by omega))
      omega
    · have ih := PSm_x hB hm c (by omega) (by omega) (fun m k h1 h2 => e m k h1 (by omega))
      have h1 := RSm_b c (fun i hi => e i c hi (by omega))
      omega
/-! bits of a set below 64 -/
def zbt (q i : Nat) : Bool := decide (q / 2 ^ i % 2 = 1)
/-- what the pairs are worth: not right, or a few -/
def xOK (x : Nat → Nat → Int) (c : Nat) : Prop := ∀ m k, m < k → k < c → x m k = -1000000 ∨ (-3 ≤ x m k ∧ x m k ≤ 10)
def badT (x : Nat → Nat → Int) (tg : Nat → Nat → Bool) (c : Nat) : Prop := ∃ m k, m < k ∧ k < c ∧ tg m k = true ∧ x m k = -1000000
def sumT (x : Nat → Nat → Int) (tg : Nat → Nat → Bool) (c : Nat) : Int := PSm (fun m k => if tg m k = true then x m k else 0) c
theorem sumT_ub {x : Nat → Nat → Int} {tg : Nat → Nat → Bool} {c : Nat} (hx : xOK x c) (hc : c ≤ 6) : sumT x tg c ≤ 360 := by
  have h := PSm_b (f := fun m k => if tg m k = true then x m k else 0) (B := 10) (by omega) c hc (fun m k h1 h2 => by
    have := hx m k h1 h2
    show (if tg m k = true then x m k else 0) ≤ 10
    split <;> omega)
  unfold sumT
  omega
theorem sumT_bad {x : Nat → Nat → Int} {tg : Nat → Nat → Bool} {c : Nat} (hx : xOK x c) (hc : c ≤ 6) (hb : badT x tg c) : sumT x tg c ≤ -999640 := by
  obtain ⟨m0, k0, h1, h2, h3, h4⟩ := hb
  have h := PSm_x (f := fun m k => if tg m k = true then x m k else 0) (B := 10) (by omega) h1 c hc h2 (fun m k h1 h2 => by
    have := hx m k h1 h2
    show (if tg m k = true then x m k else 0) ≤ 10
    split <;> omega)
  have e : (if tg m0 k0 = true then x m0 k0 else 0) = -1000000 := by rw [if_pos h3, h4]
  simp only [e] at h
  unfold sumT
  omega
/-! the class's sum: i, then the j above it -/
def ISm (f : Nat → Nat → Int) (i : Nat) : Nat → Int
  | 0 => 0
  | j + 1 => ISm f i j + (if i < j then f i j else 0)
def OSm (f : Nat → Nat → Int) (n : Nat) : Nat → Int
  | 0 => 0
  | i + 1 => OSm f n i + ISm f i n
theorem ISm_0 {f : Nat → Nat → Int} {i : Nat} : ∀ j, j ≤ i + 1 → ISm f i j = 0
  | 0, _ => rfl
  | j + 1, h => by rw [ISm, ISm_0 j (by omega), if_neg (by omega)]; rfl
theorem OSm_s {f : Nat → Nat → Int} {n : Nat} : ∀ m, m ≤ n → OSm f (n + 1) m = OSm f n m + RSm f n m
  | 0, _ => rfl
  | m + 1, hm => by
    rw [OSm, OSm, RSm, OSm_s m (by omega), ISm, if_pos (by omega)]
    omega
theorem OSm_P {f : Nat → Nat → Int} : ∀ n, OSm f n n = PSm f n
  | 0 => rfl
  | n + 1 => by
    rw [OSm, OSm_s n (Nat.le_refl n), OSm_P n, ISm_0 (n + 1) (Nat.le_refl _), PSm]
    omega
section WO
variable {x : Nat → Nat → Int} {tg : Nat → Nat → Bool} {pw : Nat → Int32} {c : Nat}
theorem xOK_b (hx : xOK x c) {m k : Nat} (h1 : m < k) (h2 : k < c) : -1000000 ≤ (if tg m k = true then x m k else 0) ∧ (if tg m k = true then x m k else 0) ≤ 10 := by
  have := hx m k h1 h2
  split <;> omega
theorem inS_I (hx : xOK x c) (hc : c ≤ 6) (hp : ∀ i j, i < j → j < c → (pw (i * 6 + j)).toInt = x i j) {i : Nat} : ∀ j : Nat, j ≤ c → (inS tg pw i j).toInt = ISm (fun m k => if tg m k = true then x m k else 0) i j ∧ -1000000 * j ≤ ISm (fun m k => if tg m k = true then x m k else 0) i j ∧ ISm (fun m k => if tg m k = true then x m k else 0) i j ≤ 10 * j
  | 0, _ => ⟨by show (nI 0).toInt = 0; decide, by simp [ISm], by simp [ISm]⟩
  | j + 1, hj => by
    obtain ⟨e, b1, b2⟩ := inS_I hx hc hp (i := i) j (by omega)
    rw [inS, ISm]
    by_cases h : i < j
    · have hb := xOK_b (tg := tg) hx h (by omega)
      have hpw := hp i j h (by omega)
      by_cases t : tg i j = true
      · rw [if_pos ⟨h, t⟩, if_pos h]
        simp only [t, if_true] at hb ⊢
        rw [zz_add (by omega) (by omega), e, hpw]
        refine ⟨rfl, ?_, ?_⟩ <;> omega
      · rw [if_neg (fun z => t z.2), if_pos h]
        simp only [t] at hb ⊢
        refine ⟨by rw [e]; simp, ?_, ?_⟩ <;> simp <;> omega
    · rw [if_neg (fun z => h z.1), if_neg h]
      refine ⟨by rw [e]; omega, ?_, ?_⟩ <;> omega
theorem ouS_O (hx : xOK x c) (hc : c ≤ 6) (hp : ∀ i j, i < j → j < c → (pw (i * 6 + j)).toInt = x i j) : ∀ i : Nat, i ≤ c → (ouS tg pw c i).toInt = OSm (fun m k => if tg m k = true then x m k else 0) c i ∧ -6000000 * i ≤ OSm (fun m k => if tg m k = true then x m k else 0) c i ∧ OSm (fun m k => if tg m k = true then x m k else 0) c i ≤ 60 * i
  | 0, _ => ⟨by show (nI 0).toInt = 0; decide, by simp [OSm], by simp [OSm]⟩
  | i + 1, hi => by
    obtain ⟨e, b1, b2⟩ := ouS_O hx hc hp i (by omega)
    obtain ⟨e2, b3, b4⟩ := inS_I (tg := tg) hx hc hp (i := i) c (Nat.le_refl c)
    rw [ouS, OSm, zz_add (by omega) (by omega), e, e2]
    refine ⟨rfl, ?_, ?_⟩ <;> omega
theorem wOf_T (hx : xOK x c) (hc : c ≤ 6) (hp : ∀ i j, i < j → j < c → (pw (i * 6 + j)).toInt = x i j) : (badT x tg c → wOf tg pw c = (-1000000)) ∧ (¬ badT x tg c → (wOf tg pw c).toInt = sumT x tg c) := by
  refine ⟨fun ⟨m, k, h1, h2, h3, h4⟩ => ?_, fun hb => ?_⟩
  · refine (wOf_bad (i := m) (j := k) (by omega) h2 ⟨h1, h3, ?_⟩).symm
    rw [zz_eq, hp m k h1 h2, h4]
    exact no_int.symm
  · rw [← wOf_ok (tg := tg) (pw := pw) (n := c) (fun i j hi hj z => hb ⟨i, j, z.1, hj, z.2.1, by rw [← hp i j z.1 hj, z.2.2]; exact no_int⟩)]
    rw [(ouS_O hx hc hp c (Nat.le_refl c)).1, OSm_P]
    rfl
end WO
/-! the reference's sum -/
section WR
variable {g : Nat → Nat → Int32} {ch : Nat → Int32} {x : Nat → Nat → Int} {c q : Nat}
def sT (q m k : Nat) : Bool := zbt q m && zbt q k
theorem zbt_hi {q c k : Nat} (hq : q < 2 ^ c) (hk : c ≤ k) : zbt q k = false := by
  refine decide_eq_false ?_
  have : 2 ^ c ≤ 2 ^ k := Nat.pow_le_pow_right (by omega) hk
  rw [Nat.div_eq_of_lt (by omega)]
  omega
theorem zbt_h {q k : Nat} (hq : q < 64) (hk : k < 16) : hasB (nI q) (nI k) = zbt q k := hasB_bit (by omega) hk
end WR
def gbI (W tb : Nat → Int32) (s : Nat) : Nat → Nat → Int32 → Int32
  | 0, _, b => b
  | u + 1, gr, b => if gr = 0 then b else gbI W tb s u ((gr - 1) &&& s) (if gr &&& lowB s = 0 then b else mx b (W gr + tb (s &&& (63 ^^^ gr))))
/-! the best by parts: class and reference come to the same -/
theorem bosN_ge {gw be : Nat → Int32} {s k : Nat} (h1 : prt s k = true) (h2 : ¬ gw k = (-1000000)) : ∀ K, k < K → (gw k + be (s ^^^ k)).toInt ≤ (bosN gw be s K).toInt
  | 0, h => by omega
  | K + 1, h => by
    rw [bosN]
    by_cases e : k = K
    · subst e
      rw [if_pos ⟨h1, h2⟩]
      exact mx_2 _ _
    · have ih := bosN_ge (be := be) h1 h2 K (by omega)
      split
      · exact Int.le_trans ih (mx_1 _ _)
      · exact ih
theorem bosN_or {gw be : Nat → Int32} {s : Nat} : ∀ K, bosN gw be s K = (-1000000) ∨ ∃ k, k < K ∧ prt s k = true ∧ ¬ gw k = (-1000000) ∧ bosN gw be s K = gw k + be (s ^^^ k)
  | 0 => Or.inl rfl
  | K + 1 => by
    have ih := bosN_or (gw := gw) (be := be) (s := s) K
    rw [bosN]
    split
    · rename_i c
      rcases mx_3 (bosN gw be s K) (gw K + be (s ^^^ K)) with q | q
      · rw [q.1]
        rcases ih with h | ⟨k, h1, h2⟩
        · exact Or.inl h
        · exact Or.inr ⟨k, by omega, h2⟩
      · rw [q.1]
        exact Or.inr ⟨K, by omega, c.1, c.2, rfl⟩
    · rcases ih with h | ⟨k, h1, h2⟩
      · exact Or.inl h
      · exact Or.inr ⟨k, by omega, h2⟩
theorem sub_mono : ∀ s, s < 64 → ∀ gr, gr < 64 → gr &&& s = gr → ∀ k, k < gr → k &&& s = k → k ≤ (gr - 1) &&& s := by decide +kernel
theorem sub_xor : ∀ s, s < 64 → ∀ k, k < 64 → k &&& s = k → s &&& (63 ^^^ k) = s ^^^ k ∧ (0 < k → s ^^^ k < s) := by decide +kernel
theorem low_ok : ∀ s, s < 64 → 0 < s → prt s (lowB s) = true ∧ lowB s ≤ s ∧ 0 < lowB s := by decide +kernel
theorem low_sT : ∀ s, s < 64 → ∀ k, k < 6 → ∀ m, m < k → sT (lowB s) m k = false := by decide +kernel
theorem setT_sT : ∀ q, q < 64 → ∀ m, m < 6 → ∀ k, k < 6 → setT (nI q) m k = sT q m k := by decide +kernel
theorem gbI_b {W tb : Nat → Int32} {s : Nat} : ∀ (u gr : Nat) (b : Int32), b.toInt ≤ (gbI W tb s u gr b).toInt
  | 0, _, b => Int.le_refl _
  | u + 1, gr, b => by
    rw [gbI]
    split
    · exact Int.le_refl _
    · refine Int.le_trans ?_ (gbI_b u _ _)
      split
      · exact Int.le_refl _
      · exact mx_1 _ _
theorem gbI_ge {W tb : Nat → Int32} {s k : Nat} (hs : s < 64) (h0 : 0 < k) (hk : k &&& s = k) (hl : ¬ k &&& lowB s = 0) : ∀ (u gr : Nat) (b : Int32), gr ≤ u → gr &&& s = gr → k ≤ gr → (W k + tb (s &&& (63 ^^^ k))).toInt ≤ (gbI W tb s u gr b).toInt
  | 0, gr, b, h1, h2, h3 => by omega
  | u + 1, gr, b, h1, h2, h3 => by
    rw [gbI, if_neg (by omega)]
    by_cases e : k = gr
    · subst e
      rw [if_neg hl]
      exact Int.le_trans (mx_2 _ _) (gbI_b u _ _)
    · have a1 : (gr - 1) &&& s ≤ gr - 1 := Nat.and_le_left
      have a2 : gr ≤ s := by rw [← h2]; exact Nat.and_le_right
      refine gbI_ge hs h0 hk hl u _ _ (by omega) ?_ (sub_mono s hs gr (by omega) h2 k (by omega) hk)
      rw [Nat.and_assoc, Nat.and_self]
theorem gbI_or {W tb : Nat → Int32} {s : Nat} : ∀ (u gr : Nat) (b : Int32), gr &&& s = gr → gbI W tb s u gr b = b ∨ ∃ k, 0 < k ∧ k &&& s = k ∧ ¬ k &&& lowB s = 0 ∧ gbI W tb s u gr b = W k + tb (s &&& (63 ^^^ k))
  | 0, gr, b, _ => Or.inl rfl
  | u + 1, gr, b, h => by
    rw [gbI]
    by_cases c : gr = 0
    · rw [if_pos c]; exact Or.inl rfl
    · rw [if_neg c]
      have ih := gbI_or (W := W) (tb := tb) u ((gr - 1) &&& s) (if gr &&& lowB s = 0 then b else mx b (W gr + tb (s &&& (63 ^^^ gr)))) (by rw [Nat.and_assoc, Nat.and_self])
      rcases ih with q | q
      · rw [q]
        by_cases c2 : gr &&& lowB s = 0
        · rw [if_pos c2]; exact Or.inl rfl
        · rw [if_neg c2]
          rcases mx_3 b (W gr + tb (s &&& (63 ^^^ gr))) with z | z
          · exact Or.inl z.1
          · exact Or.inr ⟨gr, by omega, h, c2, z.1⟩
      · exact Or.inr q
section DP
variable {x : Nat → Nat → Int} {c : Nat}
theorem sumT_lb {tg : Nat → Nat → Bool} (hx : xOK x c) (hc : c ≤ 6) : -36000000 ≤ sumT x tg c := by
  have h := PSm_l (f := fun m k => if tg m k = true then x m k else 0) (B := -1000000) (by omega) c hc (fun m k h1 h2 => (xOK_b hx h1 h2).1)
  unfold sumT
  omega
theorem sumT_ok {tg : Nat → Nat → Bool} (hx : xOK x c) (hc : c ≤ 6) (hb : ¬ badT x tg c) : -108 ≤ sumT x tg c := by
  have h := PSm_l (f := fun m k => if tg m k = true then x m k else 0) (B := -3) (by omega) c hc (fun m k h1 h2 => by
    have := hx m k h1 h2
    show -3 ≤ (if tg m k = true then x m k else 0)
    by_cases t : tg m k = true
    · rw [if_pos t]
      rcases this with q | q
      · exact absurd ⟨m, k, h1, h2, t, q⟩ hb
      · exact q.1
    · rw [if_neg t]; omega)
  unfold sumT
  omega
theorem sumT_cg {tg tg' : Nat → Nat → Bool} (h : ∀ m k, m < k → k < c → tg m k = tg' m k) : sumT x tg c = sumT x tg' c := PSm_cg c (fun m k h1 h2 => by rw [h m k h1 h2])
theorem badT_cg {tg tg' : Nat → Nat → Bool} (h : ∀ m k, m < k → k < c → tg m k = tg' m k) (hb : badT x tg c) : badT x tg' c := by
  obtain ⟨m, k, h1, h2, h3, h4⟩ := hb
  exact ⟨m, k, h1, h2, by rw [← h m k h1 h2]; exact h3, h4⟩
theorem prt_if (s k : Nat) : prt s k = true ↔ k &&& s = k ∧ ¬ k &&& lowB s = 0 := by
  unfold prt
  rw [decide_eq_true_iff]
theorem dp_step {gw be W tb : Nat → Int32} {s : Nat} (hx : xOK x c) (hc : c ≤ 6) (h0 : 0 < s) (h64 : s < 64)
    (hgw : ∀ k, 0 < k → k ≤ s → (badT x (sT k) c → gw k = (-1000000)) ∧ (¬ badT x (sT k) c → (gw k).toInt = sumT x (sT k) c))
    (hW : ∀ k, 0 < k → k ≤ s → (W k).toInt = sumT x (sT k) c) (hbe : ∀ k, k < s → be k = tb k ∧ 0 ≤ (be k).toInt ∧ (be k).toInt ≤ 360 * k) :
    bos gw be s = gbI W tb s s s (-1000000) ∧ 0 ≤ (bos gw be s).toInt ∧ (bos gw be s).toInt ≤ 360 * s ∧
    (∀ k, prt s k = true → sumT x (sT k) c + (be (s ^^^ k)).toInt ≤ (bos gw be s).toInt) ∧
    (∃ k, prt s k = true ∧ ¬ badT x (sT k) c ∧ (bos gw be s).toInt = sumT x (sT k) c + (be (s ^^^ k)).toInt) := by
  have pk : ∀ k, prt s k = true → 0 < k ∧ k ≤ s ∧ k &&& s = k ∧ ¬ k &&& lowB s = 0 ∧ s &&& (63 ^^^ k) = s ^^^ k ∧ s ^^^ k < s := fun k hk => by
    obtain ⟨h1, h2⟩ := (prt_if s k).1 hk
    have h3 : 0 < k := by
      rcases Nat.eq_zero_or_pos k with z | z
      · exact absurd (by rw [z, Nat.zero_and]) h2
      · exact z
    have h4 : k ≤ s := by rw [← h1]; exact Nat.and_le_right
    obtain ⟨h5, h6⟩ := sub_xor s h64 k (by omega) h1
    exact ⟨h3, h4, h1, h2, h5, h6 h3⟩
  have vm : ∀ k, prt s k = true → (W k + tb (s &&& (63 ^^^ k))).toInt = sumT x (sT k) c + (be (s ^^^ k)).toInt := fun k hk => by
    obtain ⟨a1, a2, a3, a4, a5, a6⟩ := pk k hk
    obtain ⟨b1, b2, b3⟩ := hbe _ a6
    have e := hW k a1 a2
    have l1 := sumT_lb (tg := sT k) hx hc
    have l2 := sumT_ub (tg := sT k) hx hc
    rw [a5, ← b1, zz_add (by omega) (by omega), e]
  have vc : ∀ k, prt s k = true → ¬ badT x (sT k) c → ¬ gw k = (-1000000) ∧ (gw k + be (s ^^^ k)).toInt = sumT x (sT k) c + (be (s ^^^ k)).toInt := fun k hk hb => by
    obtain ⟨a1, a2, a3, a4, a5, a6⟩ := pk k hk
    obtain ⟨b1, b2, b3⟩ := hbe _ a6
    have e := (hgw k a1 a2).2 hb
    have l1 := sumT_ok hx hc hb
    have l2 := sumT_ub (tg := sT k) hx hc
    refine ⟨fun z => ?_, by rw [zz_add (by omega) (by omega), e]⟩
    rw [z, no_int] at e
    omega
  have ge : ∀ k, prt s k = true → ¬ badT x (sT k) c → sumT x (sT k) c + (be (s ^^^ k)).toInt ≤ (bos gw be s).toInt := fun k hk hb => by
    rw [← (vc k hk hb).2]
    exact bosN_ge hk (vc k hk hb).1 (s + 1) (by have := (pk k hk).2.1; omega)
  obtain ⟨l1, l2, l3⟩ := low_ok s h64 h0
  have R0 : 0 ≤ (bos gw be s).toInt := by
    have z : sumT x (sT (lowB s)) c = 0 := PSm_0 c (fun m k h1 h2 => by
      show (if sT (lowB s) m k = true then x m k else 0) = 0
      rw [low_sT s h64 k (by omega) m h1]; rfl)
    have nb : ¬ badT x (sT (lowB s)) c := fun ⟨m, k, h1, h2, h3, _⟩ => by
      rw [low_sT s h64 k (by omega) m h1] at h3
      cases h3
    have g1 := ge _ l1 nb
    have g2 := (hbe _ (pk _ l1).2.2.2.2.2).2.1
    omega
  have ex : ∃ k, prt s k = true ∧ ¬ badT x (sT k) c ∧ (bos gw be s).toInt = sumT x (sT k) c + (be (s ^^^ k)).toInt := by
    rcases bosN_or (gw := gw) (be := be) (s := s) (s + 1) with q | ⟨k, h1, h2, h3, h4⟩
    · exfalso
      have e : (bos gw be s).toInt = -1000000 := by rw [bos, q, no_int]
      omega
    · have nb : ¬ badT x (sT k) c := fun hb => h3 ((hgw k (pk k h2).1 (pk k h2).2.1).1 hb)
      refine ⟨k, h2, nb, ?_⟩
      rw [← (vc k h2 nb).2]
      exact congrArg Int32.toInt h4
  have all : ∀ k, prt s k = true → sumT x (sT k) c + (be (s ^^^ k)).toInt ≤ (bos gw be s).toInt := fun k hk => by
    by_cases hb : badT x (sT k) c
    · have b1 := sumT_bad hx hc hb
      have b2 := hbe _ (pk k hk).2.2.2.2.2
      have b3 := (pk k hk).2.2.2.2.2
      omega
    · exact ge k hk hb
  refine ⟨?_, R0, ?_, all, ex⟩
  · rw [zz_eq]
    obtain ⟨k, e1, e2, e3⟩ := ex
    obtain ⟨a1, a2, a3, a4, a5, a6⟩ := pk k e1
    have m1 := gbI_ge (W := W) (tb := tb) h64 a1 a3 a4 s s (-1000000) (Nat.le_refl s) (Nat.and_self s) a2
    rw [vm k e1] at m1
    rcases gbI_or (W := W) (tb := tb) s s (-1000000) (Nat.and_self s) with q | ⟨j, j1, j2, j3, j4⟩
    · rw [q, no_int] at m1
      omega
    · have pj : prt s j = true := (prt_if s j).2 ⟨j2, j3⟩
      have g1 := all j pj
      rw [← vm j pj, ← j4] at g1
      omega
  · obtain ⟨k, e1, e2, e3⟩ := ex
    have b2 := hbe _ (pk k e1).2.2.2.2.2
    have b3 := (pk k e1).2.2.2.2.2
    have l2 := sumT_ub (tg := sT k) hx hc
    omega
theorem bpG_at {pw gw : Nat → Int32} {k : Nat} (h0 : 0 < k) : ∀ K, k ≤ K → bpG pw gw c K k = wOf (setT (nI k)) pw c
  | 0, h => by omega
  | K + 1, h => by
    rw [bpG]
    simp only [upd]
    by_cases e : k = K + 1
    · rw [if_pos e, e]
    · rw [if_neg e]
      exact bpG_at h0 K (by omega)
theorem bpB_at {pw gw be : Nat → Int32} {s : Nat} : ∀ k, s ≤ k → bpB pw gw be c k s = bpB pw gw be c s s
  | 0, h => by rw [show s = 0 by omega]
  | k + 1, h => by
    by_cases e : s = k + 1
    · rw [e]
    · rw [bpB]
      simp only [upd]
      rw [if_neg e]
      exact bpB_at k (by omega)
theorem dp_all {pw gw be f0 W : Nat → Int32} {tb : Nat → Nat → Int32} (hx : xOK x c) (hc : c ≤ 6) (hp : ∀ i j, i < j → j < c → (pw (i * 6 + j)).toInt = x i j) (hW : ∀ q, 0 < q → q < 2 ^ c → (W q).toInt = sumT x (sT q) c)
    (ht0 : upd f0 0 (nI 0) = tb 0) (hts : ∀ k, upd (tb k) (k + 1) (gbI W (tb k) (k + 1) (k + 1) (k + 1) (-1000000)) = tb (k + 1)) :
    bpB pw gw be c (2 ^ c - 1) (2 ^ c - 1) = tb (2 ^ c - 1) (2 ^ c - 1) ∧ ∃ M : Nat → Int, M 0 = 0 ∧ (∀ s, s < 2 ^ c → 0 ≤ M s) ∧ (tb (2 ^ c - 1) (2 ^ c - 1)).toInt = M (2 ^ c - 1) ∧
      ∀ s, 0 < s → s < 2 ^ c → (∀ k, prt s k = true → sumT x (sT k) c + M (s ^^^ k) ≤ M s) ∧ ∃ k, prt s k = true ∧ ¬ badT x (sT k) c ∧ M s = sumT x (sT k) c + M (s ^^^ k) := by
  have h64 : 2 ^ c ≤ 64 := show 2 ^ c ≤ 2 ^ 6 from Nat.pow_le_pow_right (by omega) hc
  have h1 : 1 ≤ 2 ^ c := Nat.one_le_two_pow
  obtain ⟨N, hN⟩ : ∃ N, N = 2 ^ c := ⟨_, rfl⟩
  rw [← hN] at h64 h1 hW ⊢
  have hgw : ∀ s, s < N → ∀ k, 0 < k → k ≤ s → (badT x (sT k) c → bpG pw gw c s k = (-1000000)) ∧ (¬ badT x (sT k) c → (bpG pw gw c s k).toInt = sumT x (sT k) c) := fun s hs k h0 hk => by
    rw [bpG_at h0 s hk]
    have hst : ∀ m j, m < j → j < c → setT (nI k) m j = sT k m j := fun m j a1 a2 => setT_sT k (by omega) m (by omega) j (by omega)
    obtain ⟨w1, w2⟩ := wOf_T (tg := setT (nI k)) hx hc hp
    exact ⟨fun hb => w1 (badT_cg (fun m j a1 a2 => (hst m j a1 a2).symm) hb), fun hb => by rw [w2 (fun z => hb (badT_cg hst z))]; exact sumT_cg hst⟩
  have key : ∀ k, k < N → ∀ s, s ≤ k → bpB pw gw be c k s = tb k s ∧ 0 ≤ (bpB pw gw be c k s).toInt ∧ (bpB pw gw be c k s).toInt ≤ 360 * s := by
    intro k
    induction k with
    | zero =>
      intro _ s hs
      have e : ∀ f : Nat → Int32, upd f 0 (nI 0) 0 = nI 0 := fun f => by simp only [upd, if_true]
      rw [show s = 0 by omega, bpB, ← ht0, e, e]
      refine ⟨rfl, ?_, ?_⟩ <;> decide
    | succ k ih =>
      intro hk s hs
      have ih := ih (by omega)
      rw [← hts k, bpB]
      simp only [upd]
      by_cases e : s = k + 1
      · rw [if_pos e, if_pos e]
        have st := dp_step (gw := bpG pw gw c (k + 1)) (be := bpB pw gw be c k) (W := W) (tb := tb k) (s := k + 1) hx hc (by omega) (by omega) (hgw (k + 1) hk) (fun j a1 a2 => hW j a1 (by omega)) (fun j hj => ih j (by omega))
        rw [e]
        exact ⟨st.1, st.2.1, st.2.2.1⟩
      · rw [if_neg e, if_neg e]
        exact ih s (by omega)
  refine ⟨(key (N - 1) (by omega) (N - 1) (Nat.le_refl _)).1, fun s => (bpB pw gw be c (N - 1) s).toInt, ?_, fun s hs => (key (N - 1) (by omega) s (by omega)).2.1, ?_, fun s h0 hs => ?_⟩
  · show (bpB pw gw be c (N - 1) 0).toInt = 0
    rw [bpB_at (N - 1) (by omega), bpB]
    simp only [upd, if_true]
    decide
  · show _ = (bpB pw gw be c (N - 1) (N - 1)).toInt
    rw [(key (N - 1) (by omega) (N - 1) (Nat.le_refl _)).1]
  · have st := dp_step (gw := bpG pw gw c s) (be := bpB pw gw be c (s - 1)) (W := W) (tb := tb (s - 1)) (s := s) hx hc h0 (by omega) (hgw s hs) (fun j a1 a2 => hW j a1 (by omega)) (fun j hj => key (s - 1) (by omega) j (by omega))
    have es : bpB pw gw be c (N - 1) s = bos (bpG pw gw c s) (bpB pw gw be c (s - 1)) s := by
      rw [bpB_at (N - 1) (by omega)]
      obtain ⟨d, rfl⟩ : ∃ d, s = d + 1 := ⟨s - 1, by omega⟩
      rw [bpB]
      simp only [upd, if_true]
      rfl
    have er : ∀ k, prt s k = true → bpB pw gw be c (N - 1) (s ^^^ k) = bpB pw gw be c (s - 1) (s ^^^ k) := fun k hk => by
      obtain ⟨a1, a2⟩ := (prt_if s k).1 hk
      have h3 : 0 < k := by
        rcases Nat.eq_zero_or_pos k with z | z
        · exact absurd (by rw [z, Nat.zero_and]) a2
        · exact z
      have h4 : k ≤ s := by rw [← a1]; exact Nat.and_le_right
      have h5 := (sub_xor s (by omega) k (by omega) a1).2 h3
      rw [bpB_at (N - 1) (show s ^^^ k ≤ N - 1 by omega), bpB_at (s - 1) (show s ^^^ k ≤ s - 1 by omega)]
    simp only
    rw [es]
    refine ⟨fun k hk => ?_, ?_⟩
    · rw [er k hk]; exact st.2.2.2.1 k hk
    · obtain ⟨k, e1, e2, e3⟩ := st.2.2.2.2
      exact ⟨k, e1, e2, by rw [er k e1]; exact e3⟩
end DP
