/-! steps from person to person -/
section DG
variable {ow kk : Nat → Int32} {n : Nat}
theorem rk_keep {st : Nat → Int32} {k : Nat} {x : Int32} {p : Nat} (h : ¬ st p = (-1)) : ∀ m, rkN ow kk st k x m p = st p
  | 0 => rfl
  | m + 1 => by
    have ih := rk_keep (k := k) (x := x) h m
    rw [rkN]
    split
    · rename_i c
      simp only [upd]
      split
      · rename_i e
        rw [← e, ih] at c
        exact absurd c.2 h
      · exact ih
    · exact ih
theorem rk_val {st : Nat → Int32} {k : Nat} {x : Int32} (p : Nat) : ∀ m, rkN ow kk st k x m p = st p ∨ (st p = (-1) ∧ rkN ow kk st k x m p = x)
  | 0 => Or.inl rfl
  | m + 1 => by
    have ih := rk_val (st := st) (k := k) (x := x) p m
    rw [rkN]
    split
    · rename_i c
      simp only [upd]
      split
      · rename_i e
        rw [← e] at c
        rcases ih with q | q
        · rw [q] at c; exact Or.inr ⟨c.2, rfl⟩
        · exact Or.inr ⟨q.1, rfl⟩
      · exact ih
    · exact ih
theorem sdI_rk {st : Nat → Int32} {t k : Nat} (hk : st (q_n (ow k)) = nI t) (ht : ¬ nI t = (-1)) : ∀ m, sdI ow kk t k st m = rkN ow kk st k (nI (t + 1)) m
  | 0 => rfl
  | m + 1 => by
    have ih := sdI_rk hk ht m
    have e : rkN ow kk st k (nI (t + 1)) m (q_n (ow k)) = nI t := by rw [rk_keep (by rw [hk]; exact ht), hk]
    rw [sdI, rkN, ih]
    by_cases c : hasB (kk k) (nI m) = true ∧ rkN ow kk st k (nI (t + 1)) m (q_n (ow m)) = (-1)
    · rw [if_pos ⟨e, c⟩, if_pos c]
    · rw [if_neg (fun z => c z.2), if_neg c]
theorem sdI_no {st : Nat → Int32} {t k : Nat} (hk : ¬ st (q_n (ow k)) = nI t) : ∀ m, sdI ow kk t k st m = st
  | 0 => rfl
  | m + 1 => by rw [sdI, sdI_no hk m, if_neg (fun z => hk z.1)]
theorem sdK_so {st : Nat → Int32} {t : Nat} (ht : ¬ nI t = (-1)) : ∀ k, sdK ow kk n t st k = soN ow kk st n t k
  | 0 => rfl
  | k + 1 => by
    rw [sdK, soN, sdK_so ht k]
    by_cases c : soN ow kk st n t k (q_n (ow k)) = nI t
    · rw [if_pos c, sdI_rk c ht]
    · rw [if_neg c, sdI_no c]
theorem so_keep {st : Nat → Int32} {t p : Nat} (h : ¬ st p = (-1)) : ∀ k, soN ow kk st n t k p = st p
  | 0 => rfl
  | k + 1 => by
    have ih := so_keep (t := t) h k
    rw [soN]
    split
    · rw [rk_keep (by rw [ih]; exact h), ih]
    · exact ih
theorem so_val {st : Nat → Int32} {t : Nat} (p : Nat) : ∀ k, soN ow kk st n t k p = st p ∨ (st p = (-1) ∧ soN ow kk st n t k p = nI (t + 1))
  | 0 => Or.inl rfl
  | k + 1 => by
    have ih := so_val (st := st) (t := t) p k
    rw [soN]
    split
    · rcases rk_val (ow := ow) (kk := kk) (st := soN ow kk st n t k) (k := k) (x := nI (t + 1)) p n with q | q
      · rw [q]; exact ih
      · rcases ih with q2 | q2
        · rw [q2] at q; exact Or.inr q
        · exact Or.inr ⟨q2.1, q.2⟩
    · exact ih
theorem so_none {st : Nat → Int32} {t : Nat} (h : ∀ k, k < n → ¬ st (q_n (ow k)) = nI t) : ∀ k, k ≤ n → soN ow kk st n t k = st
  | 0, _ => rfl
  | k + 1, hk => by
    rw [soN, so_none h k (by omega), if_neg (h k (by omega))]
theorem sd_so {st : Nat → Int32} {t : Nat} (ht : t ≤ 16) : sdN ow kk n st (t + 1) = soN ow kk (sdN ow kk n st t) n t n := by
  rw [sdN, sdK_so (q_nIne ht)]
theorem sb_sd {st : Nat → Int32} {b : Nat} : ∀ t, t ≤ 16 → (sbN ow kk st n b t b = (-1) → sbN ow kk st n b t = sdN ow kk n st t) ∧ sbN ow kk st n b t b = sdN ow kk n st t b
  | 0, _ => ⟨fun _ => rfl, rfl⟩
  | t + 1, ht => by
    obtain ⟨h1, h2⟩ := sb_sd (st := st) (b := b) t (by omega)
    rw [sd_so (by omega), sbN]
    by_cases c : sbN ow kk st n b t b = (-1)
    · rw [if_pos c, h1 c]
      exact ⟨fun _ => rfl, rfl⟩
    · rw [if_neg c]
      refine ⟨fun z => absurd z c, ?_⟩
      rw [so_keep (by rw [← h2]; exact c), h2]
theorem sd_val {st : Nat → Int32} (h0 : ∀ k, k < n → st (q_n (ow k)) = (-1) ∨ st (q_n (ow k)) = nI 0) : ∀ t, t ≤ 16 → ∀ k, k < n → sdN ow kk n st t (q_n (ow k)) = (-1) ∨ ∃ s, s ≤ t ∧ sdN ow kk n st t (q_n (ow k)) = nI s
  | 0, _, k, hk => (h0 k hk).elim Or.inl (fun h => Or.inr ⟨0, Nat.le_refl 0, h⟩)
  | t + 1, ht, k, hk => by
    rw [sd_so (by omega)]
    rcases so_val (ow := ow) (kk := kk) (n := n) (st := sdN ow kk n st t) (t := t) (q_n (ow k)) n with q | q
    · rw [q]
      rcases sd_val h0 t (by omega) k hk with e | ⟨s, e1, e2⟩
      · exact Or.inl e
      · exact Or.inr ⟨s, by omega, e2⟩
    · exact Or.inr ⟨t + 1, Nat.le_refl _, q.2⟩
def sdC (ow kk : Nat → Int32) (n : Nat) (st : Nat → Int32) (t : Nat) (k : Nat) : Bool := decide (¬ sdN ow kk n st t (q_n (ow k)) = (-1))
theorem sd_lv {st : Nat → Int32} (h0 : ∀ k, k < n → st (q_n (ow k)) = (-1) ∨ st (q_n (ow k)) = nI 0) : ∀ t, t ≤ 16 → (∃ k, k < n ∧ sdN ow kk n st t (q_n (ow k)) = nI t) → t + 1 ≤ zC (sdC ow kk n st t) n
  | 0, _, ⟨k, hk, e⟩ => by
    have := zC_lt (P := fun _ => false) (Q := sdC ow kk n st 0) (m := k) rfl (decide_eq_true (by rw [e]; exact q_nIne (by omega))) n hk (fun j _ h => by cases h)
    omega
  | t + 1, ht, ⟨k, hk, e⟩ => by
    have e0 := e
    rw [sd_so (by omega)] at e
    rcases so_val (ow := ow) (kk := kk) (n := n) (st := sdN ow kk n st t) (t := t) (q_n (ow k)) n with q | q
    · exfalso
      rw [q] at e
      rcases sd_val (kk := kk) h0 t (by omega) k hk with e2 | ⟨s, e1, e2⟩
      · rw [e2] at e; exact q_nIne ht e.symm
      · rw [e2] at e
        have := (nI_eq (by omega) (by omega)).1 e
        omega
    · have hex : ∃ k, k < n ∧ sdN ow kk n st t (q_n (ow k)) = nI t := by
        refine Classical.byContradiction fun hno => ?_
        rw [so_none (fun k2 hk2 z => hno ⟨k2, hk2, z⟩) n (Nat.le_refl n), q.1] at e
        exact q_nIne ht e.symm
      have ih := sd_lv h0 t (by omega) hex
      have := zC_lt (P := sdC ow kk n st t) (Q := sdC ow kk n st (t + 1)) (m := k) (decide_eq_false (fun z => z q.1)) (decide_eq_true (by rw [e0]; exact q_nIne ht)) n hk (fun j _ h => by
        have h2 := of_decide_eq_true h
        refine decide_eq_true ?_
        rw [sd_so (by omega), so_keep h2]
        exact h2)
      omega
theorem sd_end {st : Nat → Int32} (h0 : ∀ k, k < n → st (q_n (ow k)) = (-1) ∨ st (q_n (ow k)) = nI 0) : ∀ d, n + d ≤ 16 → sdN ow kk n st (n + d) = sdN ow kk n st n
  | 0, _ => rfl
  | d + 1, hd => by
    rw [← Nat.add_assoc, sd_so (by omega), so_none (fun k hk z => by
      have h1 := sd_lv (kk := kk) h0 (n + d) (by omega) ⟨k, hk, z⟩
      have h2 := zC_le (sdC ow kk n st (n + d)) n
      omega) n (Nat.le_refl n)]
    exact sd_end h0 d (by omega)
theorem rk_cg {st st' : Nat → Int32} {k : Nat} {x : Int32} (ho : ∀ k, k < n → q_n (ow k) < 40) (h : ∀ p, p < 40 → st p = st' p) : ∀ m, m ≤ n → ∀ p, p < 40 → rkN ow kk st k x m p = rkN ow kk st' k x m p
  | 0, _, p, hp => h p hp
  | m + 1, hm, p, hp => by
    have ih := rk_cg (k := k) (x := x) ho h m (by omega)
    rw [rkN, rkN, ih _ (ho m (by omega))]
    split
    · simp only [upd]
      split
      · rfl
      · exact ih p hp
    · exact ih p hp
theorem so_cg {st st' : Nat → Int32} {t : Nat} (ho : ∀ k, k < n → q_n (ow k) < 40) (h : ∀ p, p < 40 → st p = st' p) : ∀ k, k ≤ n → ∀ p, p < 40 → soN ow kk st n t k p = soN ow kk st' n t k p
  | 0, _, p, hp => h p hp
  | k + 1, hk, p, hp => by
    have ih := so_cg (t := t) ho h k (by omega)
    rw [soN, soN, ih _ (ho k (by omega))]
    split
    · exact rk_cg ho ih n (Nat.le_refl n) p hp
    · exact ih p hp
theorem sd_cg {st st' : Nat → Int32} (ho : ∀ k, k < n → q_n (ow k) < 40) (h : ∀ p, p < 40 → st p = st' p) : ∀ t, t ≤ 16 → ∀ p, p < 40 → sdN ow kk n st t p = sdN ow kk n st' t p
  | 0, _, p, hp => h p hp
  | t + 1, ht, p, hp => by
    rw [sd_so (by omega), sd_so (by omega)]
    exact so_cg ho (sd_cg ho h t (by omega)) n (Nat.le_refl n) p hp
theorem dg_ok {a b : Nat} {G : Nat → Int32} (ho : ∀ k, k < n → q_r (ow k) 40) (hn : n ≤ 16) (hb : b < 40) : sbN ow kk (upd (fun _ => (-1)) a (nI 0)) n b n b = sdN ow kk n (upd (fillTo G (-1) 40) a (nI 0)) 16 b := by
  have ho2 : ∀ k, k < n → q_n (ow k) < 40 := fun k hk => (ho k hk).lt (by omega)
  have hst : ∀ p, p < 40 → (upd (fun _ => (-1)) a (nI 0) : Nat → Int32) p = upd (fillTo G (-1) 40) a (nI 0) p := fun p hp => by
    simp only [upd, fillTo]
    split
    · rfl
    · first | rfl | rw [if_pos hp]
  rw [(sb_sd n hn).2, ← sd_cg ho2 hst 16 (Nat.le_refl 16) b hb]
  have h := sd_end (ow := ow) (kk := kk) (n := n) (st := upd (fun _ => (-1)) a (nI 0)) (fun k hk => by
    simp only [upd]
    split
    · exact Or.inr rfl
    · exact Or.inl rfl) (16 - n) (by omega)
  rw [show n + (16 - n) = 16 by omega] at h
  rw [h]
end DG
