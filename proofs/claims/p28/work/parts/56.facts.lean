/-! what the law asks of any state -/
section FA
variable {g g2 : Nat → Nat → Int32} {z z2 : Nat → Nat}
theorem fy_le (hI : inv g z) {k : Nat} (hk : k < z 0) : (g 17 k).toInt ≤ (g 18 k).toInt := by
  obtain ⟨⟨hE, hw, hb⟩, ⟨X, x1, x2, x3⟩, hF, hL, hz, hq⟩ := hI.1
  have b3 : (g 17 k).toInt ≤ X k := hF.2.2 X x1 x2 k hk
  have b4 : -(g 18 k).toInt ≤ -X k := hL.2.2 _ (yP_neg x1) (fun j hj => by have b9 : X j ≤ (g 13 j).toInt := x3 j hj; show -(g 13 j).toInt ≤ -X j; omega) k hk
  omega
theorem fy_mono (hI : inv g z) (hI2 : inv g2 z2) (h0 : z2 0 = z 0) (h1 : z 1 ≤ z2 1) (he : ∀ k, k < z 1 → g2 14 k = g 14 k ∧ g2 15 k = g 15 k ∧ g2 16 k = g 16 k) (h12 : g2 12 = g 12) {k : Nat} (hk : k < z 0) : (g 17 k).toInt ≤ (g2 17 k).toInt := by
  obtain ⟨-, -, hF, -⟩ := hI.1
  obtain ⟨-, -, hF2, -⟩ := hI2.1
  refine hF.2.2 (zI (g2 17)) (fun q hq => ?_) (fun j hj => ?_) k hk
  · obtain ⟨a1, a2, a3⟩ := he q hq
    have := hF2.1 q (by omega)
    have e1 : zQ (g2 14) q = zQ (g 14) q := by unfold zQ; rw [a1]
    have e2 : zQ (g2 15) q = zQ (g 15) q := by unfold zQ; rw [a2]
    have e3 : zI (g2 16) q = zI (g 16) q := by unfold zI; rw [a3]
    rw [e1, e2, e3] at this
    exact this
  · have := hF2.2.1 j (by omega)
    rw [h12] at this
    exact this
theorem mvd_d {F L F0 L0 : Nat → Int32} {n : Nat} (h : ∀ j, n ≤ j → j < 16 → F j = F0 j ∧ L j = L0 j) (hn : n ≤ 16) : mvd F L F0 L0 16 ≤ n := by
  have : ∀ d, n + d ≤ 16 → mvd F L F0 L0 (n + d) = mvd F L F0 L0 n := by
    intro d
    induction d with
    | zero => exact fun _ => rfl
    | succ d ih =>
      intro hd
      rw [← Nat.add_assoc, mvd, if_pos (h (n + d) (by omega) (by omega)), ih (by omega)]
  have h2 := this (16 - n) (by omega)
  rw [show n + (16 - n) = 16 by omega] at h2
  rw [h2]
  exact mvd_le _ _ _ _ _
theorem fa_moved (hI : inv g z) {i j : Nat} {w : Int32} (hi : i < z 0) (hj : j < z 0) (hw : ¬ w < (-50) ∧ w ≤ nI 50) : ahM g z i j w ≤ z 0 := by
  have hOK := yOK_add hI.1 hi hj hI.hz0 hw
  refine mvd_d (fun k hk _ => ?_) hI.hz0
  obtain ⟨a1, a2, a3, a4⟩ := hI.1.2.2.2.2.1 k hk
  have ot := it_out (W := upd (g 16) (z 1) w) (lo := g 12) (hi := g 13) hOK.1 hk 16
  rw [ot.1, ot.2, a1, a2, a3, a4]
  exact ⟨rfl, rfl⟩
theorem fn_moved (hI : inv g z) {i : Nat} {lo hi : Int32} (hk : i < z 0) (hlo : ¬ lo < nI 0 ∧ lo ≤ nI 999) (hhi : ¬ hi < lo ∧ hi ≤ nI 999) : fnM g z i lo hi ≤ z 0 := by
  have hOK := yOK_nar (k := i) hI.1 hlo hhi
  refine mvd_d (fun k hq _ => ?_) hI.hz0
  obtain ⟨a1, a2, a3, a4⟩ := hI.1.2.2.2.2.1 k hq
  have ot := it_out (W := g 16) (lo := upd (g 12) i (mx ((g 12) i) lo)) (hi := upd (g 13) i (mn ((g 13) i) hi)) hOK.1 hq 16
  rw [ot.1, ot.2, upd_o (by omega), upd_o (by omega), a1, a2, a3, a4]
  exact ⟨rfl, rfl⟩
/-- behind a telling -/
theorem fa_new {i j : Nat} {w : Int32} (hI2 : inv (ahG g z i j w) (zs z 1 (z 1 + 1))) (hi : i < 16) (hj : j < 16) : (ahG g z i j w 17 i).toInt + w.toInt ≤ (ahG g z i j w 17 j).toInt := by
  obtain ⟨-, -, hF2, -⟩ := hI2.1
  have h := hF2.1 (z 1) (Nat.lt_succ_self _)
  have e1 : zQ (ahG g z i j w 14) (z 1) = i := by
    show q_n (upd (g 14) (z 1) (nI i) (z 1)) = i
    rw [upd_s, q_n_nI (by omega)]
  have e2 : zQ (ahG g z i j w 15) (z 1) = j := by
    show q_n (upd (g 15) (z 1) (nI j) (z 1)) = j
    rw [upd_s, q_n_nI (by omega)]
  have e3 : zI (ahG g z i j w 16) (z 1) = w.toInt := by
    show (upd (g 16) (z 1) w (z 1)).toInt = w.toInt
    rw [upd_s]
  rw [e1, e2, e3] at h
  exact h
theorem fn_new {i : Nat} {lo hi : Int32} (hI2 : inv (fnG g z i lo hi) z) (hk : i < z 0) : lo.toInt ≤ (fnG g z i lo hi 17 i).toInt ∧ (fnG g z i lo hi 18 i).toInt ≤ hi.toInt := by
  obtain ⟨-, -, hF2, hL2, -⟩ := hI2.1
  have h1 := hF2.2.1 i hk
  have h2 := hL2.2.1 i hk
  have e1 : zI (fnG g z i lo hi 12) i = (mx (g 12 i) lo).toInt := by
    show (upd (g 12) i _ i).toInt = _
    rw [upd_s]
  have e2 : zN (fnG g z i lo hi 13) i = -(mn (g 13 i) hi).toInt := by
    show -(upd (g 13) i _ i).toInt = _
    rw [upd_s]
  rw [e1] at h1
  rw [e2] at h2
  have m1 := mx_2 (g 12 i) lo
  have h1 : (mx (g 12 i) lo).toInt ≤ (fnG g z i lo hi 17 i).toInt := h1
  have h2 : -(mn (g 13 i) hi).toInt ≤ -(fnG g z i lo hi 18 i).toInt := h2
  rcases mn_3 (g 13 i) hi with q | q
  · rw [q.1] at h2; omega
  · rw [q.1] at h2; omega
/-! reasons -/
theorem raN_min {i j n : Nat} (hj : j < n) : raN g i (g 22 j) n ≤ rop g i j := by
  induction n with
  | zero => omega
  | succ n ih =>
    rw [raN]
    by_cases e : j = n
    · subst e
      rw [if_pos rfl]
      exact Nat.min_le_right _ _
    · have := ih (by omega)
      split
      · exact Nat.le_trans (Nat.min_le_left _ _) this
      · exact this
theorem raA_min {i j c0 n : Nat} (hi : i < n) : raA g c0 i j n ≤ raN g i (g 22 j) c0 := by
  induction n with
  | zero => omega
  | succ n ih =>
    rw [raA]
    by_cases e : i = n
    · subst e
      rw [if_pos rfl]
      exact Nat.min_le_right _ _
    · have := ih (by omega)
      split
      · exact Nat.le_trans (Nat.min_le_left _ _) this
      · exact this
theorem raG_blk {i j n : Nat} (hi : i < n) (hj : j < n) (h : hasB (g 10 i) (nI j) = true) : raG g n i j ≤ 2 := by
  have h1 := raA_min (g := g) (i := i) (j := j) (c0 := n) hi
  have h2 := raN_min (g := g) (i := i) hj
  have h3 : rop g i j = 2 := by unfold rop; rw [if_pos h]
  unfold raG
  split
  · omega
  · split <;> omega
theorem rop_5 (i j : Nat) : rop g i j ≠ 5 := by
  unfold rop
  split
  · omega
  · split
    · omega
    · split <;> omega
theorem raN_5 {i : Nat} {w : Int32} : ∀ n, raN g i w n ≠ 5
  | 0 => by rw [raN]; omega
  | n + 1 => by
    have h1 := raN_5 (i := i) (w := w) n
    have h2 := rop_5 (g := g) i n
    rw [raN]
    split
    · rw [Nat.min_def]; split <;> assumption
    · exact h1
theorem raA_5 {i j c0 : Nat} (h : 4 ≤ wtN g i j) : ∀ n, raA g c0 i j n ≠ 5
  | 0 => by rw [raA, if_neg (by omega)]; omega
  | n + 1 => by
    have h1 := raA_5 (c0 := c0) h n
    have h2 := raN_5 (g := g) (i := n) (w := g 22 j) c0
    rw [raA]
    split
    · rw [Nat.min_def]; split <;> assumption
    · exact h1
theorem raA_6 {i j c0 : Nat} (h : wtN g i j < 4) : ∀ n, raA g c0 i j n ≤ 5
  | 0 => by rw [raA, if_pos h]; omega
  | n + 1 => by
    have h1 := raA_6 (c0 := c0) h n
    rw [raA]
    split
    · exact Nat.le_trans (Nat.min_le_left _ _) h1
    · exact h1
theorem raG_5 {i j n : Nat} (h : raG g n i j = 5) : wtN g i j ≤ 3 := by
  rcases Nat.lt_or_ge (wtN g i j) 4 with q | q
  · omega
  · have h1 := raA_5 (c0 := n) q n
    unfold raG at h
    split at h
    · omega
    · split at h
      · omega
      · exact absurd h h1
theorem raG_0 {i j n : Nat} (h : raG g n i j = 0) : 4 ≤ wtN g i j := by
  rcases Nat.lt_or_ge (wtN g i j) 4 with q | q
  · have h1 := raA_6 (c0 := n) q n
    have h2 : ∀ m, 2 ≤ raA g n i j m := by
      intro m
      have r2 : ∀ a b, 2 ≤ rop g a b := fun a b => by
        unfold rop
        split
        · omega
        · split
          · omega
          · split <;> omega
      have n2 : ∀ a w k, 2 ≤ raN g a w k := fun a w k => by
        induction k with
        | zero => rw [raN]; omega
        | succ k ih =>
          rw [raN]
          split
          · exact Nat.le_min.2 ⟨ih, r2 a k⟩
          · exact ih
      induction m with
      | zero => rw [raA]; split <;> omega
      | succ m ih =>
        rw [raA]
        split
        · exact Nat.le_min.2 ⟨ih, n2 _ _ _⟩
        · exact ih
    have h3 := h2 n
    unfold raG at h
    split at h
    · omega
    · split at h
      · omega
      · omega
  · exact q
/-! counts -/
theorem cnt_0 {f : Nat → Int32} {w : Int32} : ∀ n, (∀ k, k < n → ¬ f k = w) → cntN f w n = 0
  | 0, _ => rfl
  | n + 1, h => by rw [cntN, if_neg (h n (by omega)), cnt_0 n (fun k hk => h k (by omega))]
theorem cnt_new {f : Nat → Int32} {w : Int32} {i : Nat} : ∀ n, i < n → (∀ k, k < n → ¬ f k = w) → cntN (upd f i w) w n = 1
  | 0, hi, _ => by omega
  | n + 1, hi, h => by
    rw [cntN]
    by_cases e : n = i
    · subst e
      rw [if_pos upd_s]
      have : cntN (upd f n w) w n = 0 := cnt_0 n (fun k hk => by rw [upd_o (by omega)]; exact h k (by omega))
      omega
    · rw [if_neg (by rw [upd_o e]; exact h n (by omega))]
      exact cnt_new n (by omega) (fun k hk => h k (by omega))
theorem lay_cnt {w : Int32} : ∀ n, layL g w n ≤ cntN (g 22) w n
  | 0 => Nat.le_refl _
  | n + 1 => by
    have := lay_cnt (w := w) n
    rw [layL, cntN]
    by_cases c : g 22 n = w
    · rw [if_pos c]; split <;> omega
    · rw [if_neg c, if_neg (fun q => c q.1)]; exact this
theorem br_lt {f : Nat → Int32} : ∀ n, brN f n ≤ n - 1
  | 0 => Nat.le_refl _
  | n + 1 => by
    have := br_lt (f := f) n
    rw [brN]
    by_cases c : 0 < n
    · split <;> omega
    · rw [if_neg (fun q => c q.1)]; omega
/-! careers: in their order -/
theorem insC_b {F : Nat → Int32} {x n : Nat} (hx : x < n) : ∀ (p : Nat) (cr : Nat → Int32), (∀ j, j < p → q_r (cr j) n) → ∀ j, j < p + 1 → q_r (insC F cr x p j) n
  | 0, cr, h, j, hj => by
    have : j = 0 := by omega
    subst this
    rw [insC, upd_s]
    exact q_r_nI hx
  | p + 1, cr, h, j, hj => by
    rw [insC]
    split
    · rcases Nat.lt_or_ge p j with q | q
      · have : j = p + 1 := by omega
        subst this
        rw [insC_hi p _ _ (by omega), upd_s]
        exact h p (by omega)
      · exact insC_b hx p _ (fun i hi => by rw [upd_o (by omega)]; exact h i (by omega)) j (by omega)
    · by_cases q : j = p + 1
      · rw [q, upd_s]; exact q_r_nI hx
      · rw [upd_o q]; exact h j (by omega)
theorem layR_b {w : Int32} : ∀ k, ∀ j, j < layL g w k → q_r (layR g w k j) k
  | 0, j, hj => absurd hj (Nat.not_lt_zero j)
  | k + 1, j, hj => by
    rw [layL] at hj
    rw [layR]
    by_cases c : g 22 k = w ∧ ¬ g 3 k = (-1)
    · rw [if_pos c] at hj
      rw [if_pos c]
      exact insC_b (by omega) _ _ (fun i hi => q_r_mono (layR_b k i hi) (by omega)) j hj
    · rw [if_neg c] at hj
      rw [if_neg c]
      exact q_r_mono (layR_b k j hj) (by omega)
theorem insC_s {F : Nat → Int32} {x : Nat} (hx : x < 16) : ∀ (p : Nat) (cr : Nat → Int32), (∀ i j, i < j → j < p → (F (q_n (cr i))).toInt ≤ (F (q_n (cr j))).toInt) →
    (∀ i j, i < j → j < p + 1 → (F (q_n (insC F cr x p i))).toInt ≤ (F (q_n (insC F cr x p j))).toInt) ∧ (∀ B : Int, (∀ i, i < p → (F (q_n (cr i))).toInt ≤ B) → (F x).toInt ≤ B → ∀ j, j < p + 1 → (F (q_n (insC F cr x p j))).toInt ≤ B)
  | 0, cr, h => ⟨fun i j h1 h2 => by omega, fun B h1 h2 j hj => by
      have : j = 0 := by omega
      subst this
      rw [insC, upd_s, q_n_nI (by omega)]; exact h2⟩
  | p + 1, cr, h => by
    rw [insC]
    by_cases c : F x < F (q_n (cr p))
    · rw [if_pos c]
      obtain ⟨s1, s2⟩ := insC_s hx p (upd cr (p + 1) (cr p)) (fun i j h1 h2 => by rw [upd_o (by omega), upd_o (by omega)]; exact h i j h1 (by omega))
      have top : insC F (upd cr (p + 1) (cr p)) x p (p + 1) = cr p := by rw [insC_hi p _ _ (by omega), upd_s]
      have cl := zz_lt.1 c
      refine ⟨fun i j h1 h2 => ?_, fun B h1 h2 j hj => ?_⟩
      · by_cases q : j = p + 1
        · rw [q, top]
          exact s2 _ (fun k hk => by rw [upd_o (by omega)]; exact h k p hk (by omega)) (by omega) i (by omega)
        · exact s1 i j h1 (by omega)
      · by_cases q : j = p + 1
        · rw [q, top]; exact h1 p (by omega)
        · exact s2 B (fun k hk => by rw [upd_o (by omega)]; exact h1 k (by omega)) h2 j (by omega)
    · rw [if_neg c]
      have cl : (F (q_n (cr p))).toInt ≤ (F x).toInt := Int.not_lt.mp (fun q => c (zz_lt.2 q))
      refine ⟨fun i j h1 h2 => ?_, fun B h1 h2 j hj => ?_⟩
      · by_cases q : j = p + 1
        · rw [q, upd_s, upd_o (by omega), q_n_nI (by omega)]
          by_cases r : i = p
          · rw [r]; exact cl
          · have := h i p (by omega) (by omega); omega
        · rw [upd_o q, upd_o (by omega)]; exact h i j h1 (by omega)
      · by_cases q : j = p + 1
        · rw [q, upd_s, q_n_nI (by omega)]; exact h2
        · rw [upd_o q]; exact h1 j (by omega)
theorem layR_s {w : Int32} : ∀ k, k ≤ 16 → ∀ i j, i < j → j < layL g w k → (g 17 (q_n (layR g w k i))).toInt ≤ (g 17 (q_n (layR g w k j))).toInt
  | 0, _, i, j, _, hj => absurd hj (Nat.not_lt_zero j)
  | k + 1, hk, i, j, hij, hj => by
    rw [layL] at hj
    rw [layR]
    by_cases c : g 22 k = w ∧ ¬ g 3 k = (-1)
    · rw [if_pos c] at hj
      rw [if_pos c]
      exact (insC_s (by omega) _ _ (fun a b h1 h2 => layR_s k (by omega) a b h1 h2)).1 i j hij hj
    · rw [if_neg c] at hj
      rw [if_neg c]
      exact layR_s k (by omega) i j hij hj
/-! steps -/
theorem rk_keep {ow kk st : Nat → Int32} {k : Nat} {x : Int32} {p : Nat} (h : ¬ st p = (-1)) : ∀ m, rkN ow kk st k x m p = st p
  | 0 => rfl
  | m + 1 => by
    have ih := rk_keep (ow := ow) (kk := kk) (k := k) (x := x) h m
    rw [rkN]
    split
    · rename_i c
      by_cases e : p = q_n (ow m)
      · exact absurd (by rw [← ih, e]; exact c.2) h
      · rw [upd_o e]; exact ih
    · exact ih
theorem rk_val {ow kk st : Nat → Int32} {k : Nat} {x : Int32} (p : Nat) : ∀ m, rkN ow kk st k x m p = st p ∨ (st p = (-1) ∧ rkN ow kk st k x m p = x)
  | 0 => Or.inl rfl
  | m + 1 => by
    have ih := rk_val (ow := ow) (kk := kk) (st := st) (k := k) (x := x) p m
    rw [rkN]
    split
    · rename_i c
      by_cases e : p = q_n (ow m)
      · rw [e, upd_s]
        refine Or.inr ⟨?_, rfl⟩
        rcases ih with q | q
        · rw [← e, ← q, e]; exact c.2
        · rw [← e]; exact q.1
      · rw [upd_o e]; exact ih
    · exact ih
theorem so_keep {ow kk st : Nat → Int32} {c0 t p : Nat} (h : ¬ st p = (-1)) : ∀ k, soN ow kk st c0 t k p = st p
  | 0 => rfl
  | k + 1 => by
    have ih := so_keep (ow := ow) (kk := kk) (c0 := c0) (t := t) h k
    rw [soN]
    split
    · rw [rk_keep (by rw [ih]; exact h)]; exact ih
    · exact ih
theorem so_val {ow kk st : Nat → Int32} {c0 t : Nat} (p : Nat) : ∀ k, soN ow kk st c0 t k p = st p ∨ (st p = (-1) ∧ soN ow kk st c0 t k p = nI (t + 1))
  | 0 => Or.inl rfl
  | k + 1 => by
    have ih := so_val (ow := ow) (kk := kk) (st := st) (c0 := c0) (t := t) p k
    rw [soN]
    split
    · rcases rk_val (ow := ow) (kk := kk) (st := soN ow kk st c0 t k) (k := k) (x := nI (t + 1)) p c0 with q | q
      · rw [q]; exact ih
      · refine Or.inr ⟨?_, q.2⟩
        rcases ih with r | r
        · rw [← r]; exact q.1
        · exact r.1
    · exact ih
theorem rk_hit {ow kk st : Nat → Int32} {k j : Nat} {x : Int32} (hx : ¬ x = (-1)) (h : hasB (kk k) (nI j) = true) : ∀ m, j < m → ¬ rkN ow kk st k x m (q_n (ow j)) = (-1)
  | 0, hj => by omega
  | m + 1, hj => by
    rw [rkN]
    by_cases e : j = m
    · subst e
      by_cases c : rkN ow kk st k x j (q_n (ow j)) = (-1)
      · rw [if_pos ⟨h, c⟩, upd_s]; exact hx
      · rw [if_neg (fun q => c q.2)]; exact c
    · have ih := rk_hit (st := st) (ow := ow) hx h m (by omega)
      split
      · by_cases r : q_n (ow j) = q_n (ow m)
        · rw [r, upd_s]; exact hx
        · rw [upd_o r]; exact ih
      · exact ih
theorem so_hit {ow kk st : Nat → Int32} {c0 t i j : Nat} (ht : ¬ nI (t + 1) = (-1)) (h0 : ¬ nI t = (-1)) (hj : j < c0) (hs : st (q_n (ow i)) = nI t) (h : hasB (kk i) (nI j) = true) : ∀ k, i < k → ¬ soN ow kk st c0 t k (q_n (ow j)) = (-1)
  | 0, hi => by omega
  | k + 1, hi => by
    rw [soN]
    by_cases e : i = k
    · subst e
      rw [if_pos (by rw [so_keep (by rw [hs]; exact h0)]; exact hs)]
      exact rk_hit ht h c0 hj
    · have ih := so_hit (c0 := c0) ht h0 hj hs h k (by omega)
      split
      · rw [rk_keep ih]; exact ih
      · exact ih
/-- the degree of two whose mentions are kin, or the same one -/
theorem dg_1 {ow kk : Nat → Int32} {n i j : Nat} (hi : i < n) (hj : j < n) (h : hasB (kk i) (nI j) = true ∨ q_n (ow i) = q_n (ow j)) : sbN ow kk (upd (fun _ => (-1)) (q_n (ow i)) (nI 0)) n (q_n (ow j)) n (q_n (ow j)) = if q_n (ow i) = q_n (ow j) then nI 0 else nI 1 := by
  have m0 : ¬ nI 0 = (-1) := by decide
  have m1 : ¬ nI (0 + 1) = (-1) := by decide
  by_cases e : q_n (ow i) = q_n (ow j)
  · rw [if_pos e]
    have s0 : sbN ow kk (upd (fun _ => (-1)) (q_n (ow i)) (nI 0)) n (q_n (ow j)) 0 (q_n (ow j)) = nI 0 := by
      rw [sbN_0, e, upd_s]
    rw [← sbN_end (t := 0) (Nat.zero_le _) (by rw [s0]; exact m0)]
    exact s0
  · rw [if_neg e]
    have h := h.resolve_right e
    have s0 : sbN ow kk (upd (fun _ => (-1)) (q_n (ow i)) (nI 0)) n (q_n (ow j)) 0 (q_n (ow j)) = (-1) := by
      rw [sbN_0, upd_o (fun q => e q.symm)]
    have s1 : sbN ow kk (upd (fun _ => (-1)) (q_n (ow i)) (nI 0)) n (q_n (ow j)) 1 = soN ow kk (upd (fun _ => (-1)) (q_n (ow i)) (nI 0)) n 0 n := (sbN_t s0).symm
    have hit := so_hit (ow := ow) (kk := kk) (st := upd (fun _ => (-1)) (q_n (ow i)) (nI 0)) (c0 := n) (t := 0) m1 m0 hj upd_s h n hi
    have v1 : soN ow kk (upd (fun _ => (-1)) (q_n (ow i)) (nI 0)) n 0 n (q_n (ow j)) = nI 1 := by
      rcases so_val (ow := ow) (kk := kk) (st := upd (fun _ => (-1)) (q_n (ow i)) (nI 0)) (c0 := n) (t := 0) (q_n (ow j)) n with q | q
      · exact absurd (by rw [q, upd_o (fun q => e q.symm)]) hit
      · exact q.2
    rw [← sbN_end (t := 1) (by omega) (by rw [s1]; exact hit), s1]
    exact v1
/-! pairs that differ -/
theorem dfJ_le {i : Nat} : ∀ n, dfJ g i n ≤ n - (i + 1)
  | 0 => by rw [dfJ]; omega
  | n + 1 => by
    have := dfJ_le (i := i) n
    rw [dfJ]
    split
    · rename_i c
      have := c.1
      omega
    · omega
theorem dfO_le {n : Nat} : ∀ k, k ≤ n → 2 * dfO g n k + k * k + k ≤ 2 * (k * n)
  | 0, _ => by rw [dfO]; omega
  | k + 1, hk => by
    have ih := dfO_le (n := n) k (by omega)
    have h1 := dfJ_le (g := g) (i := k) n
    rw [dfO]
    have e1 : (k + 1) * (k + 1) = k * k + 2 * k + 1 := by rw [Nat.add_mul, Nat.mul_add]; omega
    have e2 : (k + 1) * n = k * n + n := by rw [Nat.add_mul]; omega
    rw [e1, e2]
    omega
theorem dfO_120 {n : Nat} (hn : n ≤ 16) : dfO g n n ≤ 120 := by
  have h := dfO_le (g := g) (n := n) n (Nat.le_refl _)
  have h2 : n * (n - 1) ≤ 16 * 15 := Nat.mul_le_mul hn (by omega)
  have h3 : n * n = n * (n - 1) + n := by
    cases n with
    | zero => rfl
    | succ m => rw [Nat.succ_sub_one, Nat.mul_add (m + 1) m 1]; omega
  omega
/-- what is told of two is so from both sides -/
theorem tell_hit {f : Nat → Int32} {i j : Nat} (hi : i < 16) (hj : j < 16) (hne : ¬ i = j) : hasB (tellF true f i j i) (nI j) = true ∧ hasB (tellF true f i j j) (nI i) = true := by
  have e : upd f i (bitS true (f i) (nI j)) j = f j := upd_o (fun z => hne z.symm)
  constructor
  · show hasB (upd (upd f i (bitS true (f i) (nI j))) j _ i) (nI j) = true
    rw [upd_o hne, upd_s, hasB_set true _ hj hj, if_pos rfl]
  · show hasB (upd (upd f i (bitS true (f i) (nI j))) j _ j) (nI i) = true
    rw [upd_s, hasB_set true _ hi hi, if_pos rfl]
end FA
