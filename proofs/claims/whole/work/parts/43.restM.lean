/-! reasons: the class's least one is the reference's first one -/
theorem mi_le {a b c : Nat} : min a b ≤ c ↔ a ≤ c ∨ b ≤ c := by
  rw [Nat.min_def]
  split <;> omega
section RR
variable {g : Nat → Nat → Int32} {i j r : Nat}
theorem raN_if {w : Int32} (hr : r < 6) : ∀ n, raN g i w n ≤ r ↔ ∃ m, m < n ∧ g 22 m = w ∧ rop g i m ≤ r
  | 0 => ⟨fun h => by rw [raN] at h; omega, fun ⟨m, h, _⟩ => by omega⟩
  | n + 1 => by
    rw [raN]
    have ih := raN_if (w := w) hr n
    by_cases c : g 22 n = w
    · rw [if_pos c, mi_le, ih]
      constructor
      · rintro (⟨m, h1, h2⟩ | h)
        · exact ⟨m, by omega, h2⟩
        · exact ⟨n, by omega, c, h⟩
      · rintro ⟨m, h1, h2, h3⟩
        rcases Nat.lt_or_ge m n with q | q
        · exact Or.inl ⟨m, q, h2, h3⟩
        · rw [show m = n by omega] at h3
          exact Or.inr h3
    · rw [if_neg c, ih]
      constructor
      · rintro ⟨m, h1, h2⟩
        exact ⟨m, by omega, h2⟩
      · rintro ⟨m, h1, h2, h3⟩
        rcases Nat.lt_or_ge m n with q | q
        · exact ⟨m, q, h2, h3⟩
        · rw [show m = n by omega] at h2
          exact absurd h2 c
theorem raA_if {c0 : Nat} (hr : r < 6) : ∀ n, raA g c0 i j n ≤ r ↔ (if wtN g i j < 4 then 5 else 6) ≤ r ∨ ∃ k m, k < n ∧ m < c0 ∧ g 22 k = g 22 i ∧ g 22 m = g 22 j ∧ rop g k m ≤ r
  | 0 => by
    rw [raA]
    exact ⟨fun h => Or.inl h, fun h => h.elim id (fun ⟨k, m, h, _⟩ => by omega)⟩
  | n + 1 => by
    rw [raA]
    have ih := raA_if (c0 := c0) hr n
    by_cases c : g 22 n = g 22 i
    · rw [if_pos c, mi_le, ih, raN_if hr]
      constructor
      · rintro ((h | ⟨k, m, h1, h2⟩) | ⟨m, h1, h2, h3⟩)
        · exact Or.inl h
        · exact Or.inr ⟨k, m, by omega, h2⟩
        · exact Or.inr ⟨n, m, by omega, h1, c, h2, h3⟩
      · rintro (h | ⟨k, m, h1, h2, h3, h4, h5⟩)
        · exact Or.inl (Or.inl h)
        · rcases Nat.lt_or_ge k n with q | q
          · exact Or.inl (Or.inr ⟨k, m, q, h2, h3, h4, h5⟩)
          · rw [show k = n by omega] at h5
            exact Or.inr ⟨m, h2, h4, h5⟩
    · rw [if_neg c, ih]
      constructor
      · rintro (h | ⟨k, m, h1, h2⟩)
        · exact Or.inl h
        · exact Or.inr ⟨k, m, by omega, h2⟩
      · rintro (h | ⟨k, m, h1, h2, h3, h4⟩)
        · exact Or.inl h
        · rcases Nat.lt_or_ge k n with q | q
          · exact Or.inr ⟨k, m, q, h2, h3, h4⟩
          · rw [show k = n by omega] at h3
            exact absurd h3 c
theorem hrI_if {acc : Bool} {k : Nat} : ∀ n, hrI g r i j acc k n = true ↔ acc = true ∨ ∃ m, m < n ∧ g 22 k = g 22 i ∧ g 22 m = g 22 j ∧ prB g r k m = true
  | 0 => ⟨fun h => Or.inl h, fun h => h.elim id (fun ⟨m, h, _⟩ => by omega)⟩
  | n + 1 => by
    rw [hrI]
    have ih := hrI_if (acc := acc) (k := k) n
    by_cases c : g 22 k = g 22 i ∧ g 22 n = g 22 j
    · rw [if_pos c, Bool.or_eq_true, ih]
      constructor
      · rintro ((h | ⟨m, h1, h2⟩) | h)
        · exact Or.inl h
        · exact Or.inr ⟨m, by omega, h2⟩
        · exact Or.inr ⟨n, by omega, c.1, c.2, h⟩
      · rintro (h | ⟨m, h1, h2, h3, h4⟩)
        · exact Or.inl (Or.inl h)
        · rcases Nat.lt_or_ge m n with q | q
          · exact Or.inl (Or.inr ⟨m, q, h2, h3, h4⟩)
          · rw [show m = n by omega] at h4
            exact Or.inr h4
    · rw [if_neg c, ih]
      constructor
      · rintro (h | ⟨m, h1, h2⟩)
        · exact Or.inl h
        · exact Or.inr ⟨m, by omega, h2⟩
      · rintro (h | ⟨m, h1, h2, h3, h4⟩)
        · exact Or.inl h
        · rcases Nat.lt_or_ge m n with q | q
          · exact Or.inr ⟨m, q, h2, h3, h4⟩
          · rw [show m = n by omega] at h3
            exact absurd ⟨h2, h3⟩ c
theorem hrO_if {n : Nat} : ∀ k, hrO g n r i j k = true ↔ ∃ a b, a < k ∧ b < n ∧ g 22 a = g 22 i ∧ g 22 b = g 22 j ∧ prB g r a b = true
  | 0 => ⟨fun h => absurd h Bool.false_ne_true, fun ⟨a, b, h, _⟩ => by omega⟩
  | k + 1 => by
    rw [hrO, hrI_if, hrO_if k]
    constructor
    · rintro (⟨a, b, h1, h2⟩ | ⟨m, h1, h2⟩)
      · exact ⟨a, b, by omega, h2⟩
      · exact ⟨k, m, by omega, h1, h2⟩
    · rintro ⟨a, b, h1, h2, h3, h4, h5⟩
      rcases Nat.lt_or_ge a k with q | q
      · exact Or.inl ⟨a, b, q, h2, h3, h4, h5⟩
      · rw [show a = k by omega] at h3 h5
        exact Or.inr ⟨b, h2, h3, h4, h5⟩
theorem rop_if (k m : Nat) : (rop g k m ≤ 2 ↔ prB g 2 k m = true) ∧ (rop g k m ≤ 3 ↔ prB g 2 k m = true ∨ prB g 3 k m = true) ∧ (rop g k m ≤ 4 ↔ prB g 2 k m = true ∨ prB g 3 k m = true ∨ prB g 4 k m = true) ∧ (rop g k m ≤ 5 ↔ rop g k m ≤ 4) ∧ 2 ≤ rop g k m := by
  have e2 : prB g 2 k m = hasB (g 10 k) (nI m) := rfl
  have e3 : prB g 3 k m = hof (g 1 k) (g 1 m) := rfl
  have e4 : prB g 4 k m = abo g k m := rfl
  rw [e2, e3, e4]
  unfold rop
  cases hasB (g 10 k) (nI m) <;> cases hof (g 1 k) (g 1 m) <;> cases abo g k m <;> simp
theorem raG_rs (n : Nat) : raG g n i j = rsN g n i j := by
  unfold raG rsN
  by_cases c : g 22 i = g 22 j
  · rw [if_pos c, if_pos c]
  · rw [if_neg c, if_neg c]
    have hle := raA_le g n i j n
    have a1 := raA_if (g := g) (i := i) (j := j) (c0 := n) (r := 1) (by omega) n
    have a2 := raA_if (g := g) (i := i) (j := j) (c0 := n) (r := 2) (by omega) n
    have a3 := raA_if (g := g) (i := i) (j := j) (c0 := n) (r := 3) (by omega) n
    have a4 := raA_if (g := g) (i := i) (j := j) (c0 := n) (r := 4) (by omega) n
    have a5 := raA_if (g := g) (i := i) (j := j) (c0 := n) (r := 5) (by omega) n
    have b5 : 5 ≤ (if wtN g i j < 4 then 5 else 6) := by split <;> omega
    have n1 : ¬ raA g n i j n ≤ 1 := fun h => by
      rcases a1.1 h with q | ⟨k, m, _, _, _, _, q⟩
      · omega
      · have := (rop_if (g := g) k m).2.2.2.2; omega
    have t2 : raA g n i j n ≤ 2 ↔ hrO g n 2 i j n = true := by
      rw [a2, hrO_if]
      constructor
      · rintro (q | ⟨k, m, h1, h2, h3, h4, h5⟩)
        · omega
        · exact ⟨k, m, h1, h2, h3, h4, (rop_if k m).1.1 h5⟩
      · rintro ⟨k, m, h1, h2, h3, h4, h5⟩
        exact Or.inr ⟨k, m, h1, h2, h3, h4, (rop_if k m).1.2 h5⟩
    have t3 : raA g n i j n ≤ 3 ↔ hrO g n 2 i j n = true ∨ hrO g n 3 i j n = true := by
      rw [a3, hrO_if, hrO_if]
      constructor
      · rintro (q | ⟨k, m, h1, h2, h3, h4, h5⟩)
        · omega
        · rcases (rop_if k m).2.1.1 h5 with q | q
          · exact Or.inl ⟨k, m, h1, h2, h3, h4, q⟩
          · exact Or.inr ⟨k, m, h1, h2, h3, h4, q⟩
      · rintro (⟨k, m, h1, h2, h3, h4, h5⟩ | ⟨k, m, h1, h2, h3, h4, h5⟩)
        · exact Or.inr ⟨k, m, h1, h2, h3, h4, (rop_if k m).2.1.2 (Or.inl h5)⟩
        · exact Or.inr ⟨k, m, h1, h2, h3, h4, (rop_if k m).2.1.2 (Or.inr h5)⟩
    have t4 : raA g n i j n ≤ 4 ↔ hrO g n 2 i j n = true ∨ hrO g n 3 i j n = true ∨ hrO g n 4 i j n = true := by
      rw [a4, hrO_if, hrO_if, hrO_if]
      constructor
      · rintro (q | ⟨k, m, h1, h2, h3, h4, h5⟩)
        · omega
        · rcases (rop_if k m).2.2.1.1 h5 with q | q | q
          · exact Or.inl ⟨k, m, h1, h2, h3, h4, q⟩
          · exact Or.inr (Or.inl ⟨k, m, h1, h2, h3, h4, q⟩)
          · exact Or.inr (Or.inr ⟨k, m, h1, h2, h3, h4, q⟩)
      · rintro (⟨k, m, h1, h2, h3, h4, h5⟩ | ⟨k, m, h1, h2, h3, h4, h5⟩ | ⟨k, m, h1, h2, h3, h4, h5⟩)
        · exact Or.inr ⟨k, m, h1, h2, h3, h4, (rop_if k m).2.2.1.2 (Or.inl h5)⟩
        · exact Or.inr ⟨k, m, h1, h2, h3, h4, (rop_if k m).2.2.1.2 (Or.inr (Or.inl h5))⟩
        · exact Or.inr ⟨k, m, h1, h2, h3, h4, (rop_if k m).2.2.1.2 (Or.inr (Or.inr h5))⟩
    have t5 : raA g n i j n ≤ 5 ↔ wtN g i j < 4 ∨ raA g n i j n ≤ 4 := by
      rw [a5, a4]
      constructor
      · rintro (q | ⟨k, m, h1, h2, h3, h4, h5⟩)
        · by_cases c9 : wtN g i j < 4
          · exact Or.inl c9
          · rw [if_neg c9] at q; omega
        · exact Or.inr (Or.inr ⟨k, m, h1, h2, h3, h4, (rop_if k m).2.2.2.1.1 h5⟩)
      · rintro (q | q | ⟨k, m, h1, h2, h3, h4, h5⟩)
        · rw [if_pos q]; exact Or.inl (Nat.le_refl 5)
        · omega
        · exact Or.inr ⟨k, m, h1, h2, h3, h4, by omega⟩
    by_cases c2 : hrO g n 2 i j n = true
    · have := t2.2 c2
      rw [if_pos c2, if_neg (by omega)]; omega
    · have m2 : ¬ raA g n i j n ≤ 2 := fun h => c2 (t2.1 h)
      rw [if_neg c2]
      by_cases c3 : hrO g n 3 i j n = true
      · have := t3.2 (Or.inr c3)
        rw [if_pos c3, if_neg (by omega)]; omega
      · have m3 : ¬ raA g n i j n ≤ 3 := fun h => (t3.1 h).elim c2 c3
        rw [if_neg c3]
        by_cases c4 : hrO g n 4 i j n = true
        · have := t4.2 (Or.inr (Or.inr c4))
          rw [if_pos c4, if_neg (by omega)]; omega
        · have m4 : ¬ raA g n i j n ≤ 4 := fun h => (t4.1 h).elim c2 (fun h => h.elim c3 c4)
          rw [if_neg c4]
          by_cases c5 : wtN g i j < 4
          · have := t5.2 (Or.inl c5)
            rw [if_pos c5, if_neg (by omega)]; omega
          · have m5 : ¬ raA g n i j n ≤ 5 := fun h => (t5.1 h).elim c5 m4
            rw [if_neg c5, if_pos (by omega)]
end RR
/-! pairs that differ -/
section DF
variable {g : Nat → Nat → Int32}
def dfQ (g : Nat → Nat → Int32) (i k : Nat) : Bool := decide (¬ decide (g 22 i = g 22 k) = kn (g 4 i) (g 4 k))
theorem kn_sy (x y : Int32) : kn x y = kn y x := by
  unfold kn
  by_cases e : x = y
  · subst e; rfl
  · rw [decide_eq_false (fun z => e z.1), decide_eq_false (fun z => e z.1.symm)]
theorem dmI_c (k : Nat) : ∀ m, dmI g k m = zC (fun i => dfQ g i k) m
  | 0 => rfl
  | m + 1 => by
    rw [dmI, zC, dmI_c k m]
    have e : (¬ kn (g 4 k) (g 4 m) = decide (g 22 k = g 22 m)) ↔ dfQ g m k = true := by
      unfold dfQ
      rw [decide_eq_true_iff, kn_sy (g 4 m) (g 4 k)]
      have e2 : decide (g 22 m = g 22 k) = decide (g 22 k = g 22 m) := by
        by_cases e9 : g 22 m = g 22 k
        · rw [decide_eq_true e9, decide_eq_true e9.symm]
        · rw [decide_eq_false e9, decide_eq_false (fun z => e9 z.symm)]
      rw [e2]
      exact ⟨fun h z => h z.symm, fun h z => h z.symm⟩
    by_cases c : dfQ g m k = true
    · rw [if_pos (e.2 c), if_pos c]
    · rw [if_neg (fun z => c (e.1 z)), if_neg c]; rfl
theorem dfO_c (n : Nat) : ∀ m, m ≤ n → dfO g (n + 1) m = dfO g n m + zC (fun i => dfQ g i n) m
  | 0, _ => rfl
  | m + 1, hm => by
    rw [dfO, dfO, zC, dfO_c n m (by omega), dfJ]
    by_cases c : dfQ g m n = true
    · rw [if_pos c, if_pos ⟨by omega, of_decide_eq_true c⟩]; omega
    · rw [if_neg c, if_neg (fun z => c (decide_eq_true z.2))]; omega
theorem dfO_dm : ∀ n, dfO g n n = dmO g n
  | 0 => rfl
  | n + 1 => by
    rw [dmO, ← dfO_dm n, dmI_c, dfO, dfO_c n n (Nat.le_refl n), dfJ_0 (n + 1) (Nat.le_refl _)]; rfl
end DF
/-! careers: the row that was laid out, and the places by counting -/
section CC
variable {g : Nat → Nat → Int32} {w : Int32}
theorem icE_c (x : Nat) : ∀ n, icE g w x n = zC (fun m => icB g w m && ieB g m x) n
  | 0 => rfl
  | n + 1 => by
    rw [icE, zC, icE_c x n]
    by_cases c : icB g w n = true ∧ ieB g n x = true
    · rw [if_pos c, if_pos (by rw [c.1, c.2]; rfl)]
    · rw [if_neg c, if_neg (fun z => c (by rwa [Bool.and_eq_true] at z))]; rfl
theorem layL_c : ∀ n, layL g w n = zC (icB g w) n
  | 0 => rfl
  | n + 1 => by
    rw [layL, zC, layL_c n]
    by_cases c : g 22 n = w ∧ ¬ g 3 n = (-1)
    · rw [if_pos c, if_pos (show icB g w n = true from decide_eq_true c)]
    · rw [if_neg c, if_neg (show ¬ icB g w n = true from fun z => c (of_decide_eq_true z))]; rfl
theorem ieB_if (i j : Nat) : ieB g i j = true ↔ (g 17 i).toInt < (g 17 j).toInt ∨ ((g 17 i).toInt = (g 17 j).toInt ∧ i < j) := by
  unfold ieB
  rw [decide_eq_true_iff, zz_lt, zz_eq]
theorem insC_sp {F : Nat → Int32} {x p0 : Nat} : ∀ (p : Nat) (cr : Nat → Int32), p0 ≤ p → (∀ j, p0 ≤ j → j < p → F x < F (q_n (cr j))) → (∀ j, j < p0 → ¬ F x < F (q_n (cr j))) → ∀ j, insC F cr x p j = if j < p0 then cr j else if j = p0 then nI x else if j ≤ p then cr (j - 1) else cr j
  | 0, cr, h0, h1, h2, j => by
    rw [insC]
    show (if j = 0 then _ else _) = _
    have e : p0 = 0 := by omega
    subst e
    rw [if_neg (show ¬ j < 0 by omega)]
    by_cases c : j = 0
    · rw [if_pos c, if_pos c]
    · rw [if_neg c, if_neg c, if_neg (by omega)]
  | p + 1, cr, h0, h1, h2, j => by
    rw [insC]
    by_cases e : p0 = p + 1
    · rw [if_neg (h2 p (by omega))]
      show (if j = p + 1 then _ else _) = _
      by_cases c : j = p + 1
      · rw [if_pos c, if_neg (by omega), if_pos (by omega)]
      · rw [if_neg c]
        by_cases c2 : j < p0
        · rw [if_pos c2]
        · rw [if_neg c2, if_neg (by omega), if_neg (by omega)]
    · rw [if_pos (h1 p (by omega) (by omega))]
      have hu : ∀ i, i < p + 1 → upd cr (p + 1) (cr p) i = cr i := fun i hi => by simp only [upd]; rw [if_neg (by omega)]
      have h3 := insC_sp (F := F) (x := x) (p0 := p0) p (upd cr (p + 1) (cr p)) (by omega) (fun i hi1 hi2 => by rw [hu i (by omega)]; exact h1 i hi1 (by omega)) (fun i hi => by rw [hu i (by omega)]; exact h2 i hi) j
      rw [h3]
      by_cases c1 : j < p0
      · rw [if_pos c1, if_pos c1, hu j (by omega)]
      · rw [if_neg c1, if_neg c1]
        by_cases c2 : j = p0
        · rw [if_pos c2, if_pos c2]
        · rw [if_neg c2, if_neg c2]
          by_cases c3 : j ≤ p
          · rw [if_pos c3, if_pos (by omega), hu (j - 1) (by omega)]
          · rw [if_neg c3]
            simp only [upd]
            by_cases c4 : j = p + 1
            · rw [if_pos c4, if_pos (by omega), show j - 1 = p by omega]
            · rw [if_neg c4, if_neg (by omega)]
/-- among the first k: a member that comes later has more ahead of it -/
theorem icE_lt {x y k : Nat} (hx : x < k) (hb : icB g w x = true) (h : ieB g x y = true) : icE g w x k < icE g w y k := by
  rw [icE_c, icE_c]
  refine zC_lt (m := x) ?_ ?_ k hx (fun m _ hm => ?_)
  · rw [hb, Bool.true_and]
    cases hc : ieB g x x with
    | false => rfl
    | true => rw [ieB_if] at hc; omega
  · rw [hb, h]; rfl
  · rw [Bool.and_eq_true] at hm ⊢
    refine ⟨hm.1, ?_⟩
    rw [ieB_if] at h ⊢
    have h2 := (ieB_if (g := g) m x).1 hm.2
    omega
theorem icE_ltL {x k : Nat} (hx : x < k) (hb : icB g w x = true) : icE g w x k < layL g w k := by
  rw [icE_c, layL_c]
  refine zC_lt (m := x) ?_ hb k hx (fun m _ hm => ?_)
  · rw [hb, Bool.true_and]
    cases hc : ieB g x x with
    | false => rfl
    | true => rw [ieB_if] at hc; omega
  · rw [Bool.and_eq_true] at hm
    exact hm.1
theorem icE_leL (x k : Nat) : icE g w x k ≤ layL g w k := by
  rw [icE_c, layL_c]
  exact zC_mono k (fun m _ hm => by rw [Bool.and_eq_true] at hm; exact hm.1)
theorem icE_s {x k : Nat} (hb : icB g w k = true) : icE g w x (k + 1) = icE g w x k + (if ieB g k x = true then 1 else 0) := by
  rw [icE]
  by_cases c : ieB g k x = true
  · rw [if_pos ⟨hb, c⟩, if_pos c]
  · rw [if_neg (fun z => c z.2), if_neg c]; rfl
theorem lay_ok : ∀ k, k ≤ 16 → (∀ x, x < k → icB g w x = true → layR g w k (icE g w x k) = nI x) ∧ (∀ p, p < layL g w k → ∃ x, x < k ∧ icB g w x = true ∧ icE g w x k = p)
  | 0, _ => ⟨fun x hx => by omega, fun p hp => by rw [layL] at hp; omega⟩
  | k + 1, hk => by
    obtain ⟨h1, h2⟩ := lay_ok k (by omega)
    by_cases hb : icB g w k = true
    · have hc := of_decide_eq_true hb
      obtain ⟨l1, l2⟩ := lay_t hc.1 hc.2
      have le := icE_leL (g := g) (w := w) k k
      -- places: those above p0 are just the members that come after k
      have pl : ∀ x, x < k → icB g w x = true → (g 17 k < g 17 x ↔ icE g w k k ≤ icE g w x k) := fun x hx hbx => by
        constructor
        · intro h
          rw [icE_c, icE_c]
          refine zC_mono k (fun m _ hm => ?_)
          rw [Bool.and_eq_true] at hm ⊢
          refine ⟨hm.1, ?_⟩
          have h3 := (ieB_if (g := g) m k).1 hm.2
          rw [ieB_if]
          rw [zz_lt] at h
          omega
        · intro h
          rw [zz_lt]
          rcases Int.lt_or_le (g 17 k).toInt (g 17 x).toInt with q | q
          · exact q
          · have h3 : ieB g x k = true := by rw [ieB_if]; omega
            have := icE_lt hx hbx h3
            omega
      have sp := insC_sp (F := g 17) (x := k) (p0 := icE g w k k) (layL g w k) (layR g w k) le (fun j hj1 hj2 => by
        obtain ⟨x, a1, a2, a3⟩ := h2 j hj2
        rw [← a3, h1 x a1 a2, q_n_nI (by omega)]
        exact (pl x a1 a2).2 (by omega)) (fun j hj => by
        obtain ⟨x, a1, a2, a3⟩ := h2 j (by omega)
        rw [← a3, h1 x a1 a2, q_n_nI (by omega)]
        exact fun z => by have := (pl x a1 a2).1 z; omega)
      have ex : ∀ x, x < k → icB g w x = true → icE g w x (k + 1) = if icE g w k k ≤ icE g w x k then icE g w x k + 1 else icE g w x k := fun x hx hbx => by
        rw [icE_s hb]
        have h3 := pl x hx hbx
        have h4 : ieB g k x = true ↔ g 17 k < g 17 x := by
          rw [ieB_if, zz_lt]
          omega
        by_cases c : g 17 k < g 17 x
        · rw [if_pos (h4.2 c), if_pos (h3.1 c)]
        · rw [if_neg (fun z => c (h4.1 z)), if_neg (fun z => c (h3.2 z))]; rfl
      have ek : icE g w k (k + 1) = icE g w k k := by
        rw [icE_s hb, if_neg (fun z => by rw [ieB_if] at z; omega)]; rfl
      rw [← l1, ← l2]
      refine ⟨fun x hx hbx => ?_, fun p hp => ?_⟩
      · by_cases e : x = k
        · subst e
          rw [ek, sp, if_neg (by omega), if_pos rfl]
        · have hx2 : x < k := by omega
          have hl := icE_ltL hx2 hbx
          rw [ex x hx2 hbx, sp]
          by_cases c : icE g w k k ≤ icE g w x k
          · rw [if_pos c, if_neg (by omega), if_neg (by omega), if_pos (by omega), Nat.add_sub_cancel]
            exact h1 x hx2 hbx
          · rw [if_neg c, if_pos (by omega)]
            exact h1 x hx2 hbx
      · rcases Nat.lt_trichotomy p (icE g w k k) with q | q | q
        · obtain ⟨x, a1, a2, a3⟩ := h2 p (by omega)
          exact ⟨x, by omega, a2, by rw [ex x a1 a2, if_neg (by omega)]; exact a3⟩
        · exact ⟨k, by omega, hb, by rw [ek, q]⟩
        · obtain ⟨x, a1, a2, a3⟩ := h2 (p - 1) (by omega)
          exact ⟨x, by omega, a2, by rw [ex x a1 a2, if_pos (by omega)]; omega⟩
    · have hc : ¬ (g 22 k = w ∧ ¬ g 3 k = (-1)) := fun z => hb (decide_eq_true z)
      obtain ⟨l1, l2⟩ := lay_f hc
      have es : ∀ x, icE g w x (k + 1) = icE g w x k := fun x => by rw [icE, if_neg (fun z => hb z.1)]
      rw [← l1, ← l2]
      refine ⟨fun x hx hbx => ?_, fun p hp => ?_⟩
      · by_cases e : x = k
        · subst e; exact absurd hbx hb
        · rw [es]; exact h1 x (by omega) hbx
      · obtain ⟨x, a1, a2, a3⟩ := h2 p hp
        exact ⟨x, by omega, a2, by rw [es]; exact a3⟩
theorem icF_y {n p x : Nat} (hb : icB g w x = true) (he : icE g w x n = p) (hu : ∀ y, y < n → icB g w y = true → icE g w y n = p → y = x) : ∀ k, k ≤ n → x < k → icF g w n p k = nI x
  | 0, _, h => by omega
  | k + 1, hk, h => by
    rw [icF]
    by_cases e : x = k
    · subst e
      rw [if_pos ⟨hb, he⟩]
    · rw [if_neg (fun z => e (hu k (by omega) z.1 z.2).symm)]
      exact icF_y hb he hu k (by omega) (by omega)
theorem icF_no {n p : Nat} : ∀ k, (∀ y, y < k → icB g w y = true → ¬ icE g w y n = p) → icF g w n p k = (-1)
  | 0, _ => rfl
  | k + 1, h => by
    rw [icF, if_neg (fun z => h k (by omega) z.1 z.2)]
    exact icF_no k (fun y hy => h y (by omega))
theorem car_ok {n : Nat} (hn : n ≤ 16) (p : Nat) : icF g w n p n = if p < layL g w n then layR g w n p else (-1) := by
  obtain ⟨h1, h2⟩ := lay_ok (g := g) (w := w) n hn
  by_cases c : p < layL g w n
  · rw [if_pos c]
    obtain ⟨x, a1, a2, a3⟩ := h2 p c
    rw [icF_y a2 a3 (fun y hy hby hye => by
      have e1 := h1 y hy hby
      have e2 := h1 x a1 a2
      rw [hye] at e1
      rw [a3, e1] at e2
      exact (nI_eq (by omega) (by omega)).1 e2) n (Nat.le_refl n) a1, ← a3, h1 x a1 a2]
  · rw [if_neg c]
    exact icF_no n (fun y hy hby hye => by have := icE_ltL hy hby; omega)
theorem bm_ok {n : Nat} (hn : n ≤ 16) {f : Nat → Int32} (hf : ∀ k, k < layL g w n → f k = bmK g (layR g w n k)) (hr : ∀ k, k < layL g w n → ¬ layR g w n k = (-1)) : ∀ (u a : Nat), 1 ≤ a → a + u = 16 → bmR g w n u a (icF g w n (a - 1) n) (brN f (min a (layL g w n))) = brN f (layL g w n)
  | 0, a, h1, h2 => by
    have hl := layL_le g w n
    show brN f (min a (layL g w n)) = _
    rw [Nat.min_eq_right (by omega)]
  | u + 1, a, h1, h2 => by
    rw [bmR]
    by_cases c : a - 1 < layL g w n
    · have e1 : icF g w n (a - 1) n = layR g w n (a - 1) := by rw [car_ok hn, if_pos c]
      rw [if_neg (by rw [e1]; exact hr _ c)]
      have ih := bm_ok hn hf hr u (a + 1) (by omega) (by omega)
      rw [Nat.add_sub_cancel] at ih
      rw [← ih]
      congr 1
      by_cases c2 : a < layL g w n
      · have e2 : icF g w n a n = layR g w n a := by rw [car_ok hn, if_pos c2]
        rw [e1, e2, Nat.min_eq_left (by omega), Nat.min_eq_left (by omega), brN, hf a c2, hf (a - 1) c]
        by_cases c3 : bmK g (layR g w n a) < bmK g (layR g w n (a - 1))
        · rw [if_pos ⟨hr a c2, c3⟩, if_pos ⟨by omega, c3⟩]
        · rw [if_neg (fun z => c3 z.2), if_neg (fun z => c3 z.2)]
      · have e2 : icF g w n a n = (-1) := by rw [car_ok hn, if_neg c2]
        rw [if_neg (fun z => z.1 e2), Nat.min_eq_right (by omega), Nat.min_eq_right (by omega)]
    · have e1 : icF g w n (a - 1) n = (-1) := by rw [car_ok hn, if_neg c]
      rw [if_pos e1, Nat.min_eq_right (by omega)]
theorem br_ok {n : Nat} (hn : n ≤ 16) (hp : ∀ k, k < n → g 3 k = (-1) ∨ q_r (g 3 k) 8) : bmR g w n 15 1 (icF g w n 0 n) 0 = brN (rkC g (layR g w n)) (layL g w n) := by
  obtain ⟨h1, h2⟩ := lay_ok (g := g) (w := w) n hn
  have h := bm_ok (g := g) (w := w) hn (f := rkC g (layR g w n)) (fun k hk => by
    obtain ⟨x, a1, a2, a3⟩ := h2 k hk
    have e := h1 x a1 a2
    rw [a3] at e
    have hc := (of_decide_eq_true a2).2
    have hq := (hp x a1).resolve_left hc
    unfold rkC bmK
    rw [e, rAt_nI (by omega) (by omega), q_n_nI (by omega), rAt_r hq (by omega)]) (fun k hk => by
    obtain ⟨x, a1, a2, a3⟩ := h2 k hk
    have e := h1 x a1 a2
    rw [a3] at e
    rw [e]
    exact q_nIne (by omega)) 15 1 (Nat.le_refl 1) rfl
  rw [← h]
  congr 1
  rcases Nat.eq_zero_or_pos (layL g w n) with q | q
  · rw [q]; rfl
  · rw [Nat.min_eq_left (by omega)]; rfl
end CC
