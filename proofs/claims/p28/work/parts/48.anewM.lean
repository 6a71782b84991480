/-! the best of all groupings: the class's list of groupings holds them all -/
def lT (s : Nat) (e : Nat → Nat) (m k : Nat) : Bool := (zbt s m && zbt s k) && decide (e m = e k)
theorem sumT_un {x : Nat → Nat → Int} {c : Nat} {tg t1 t2 : Nat → Nat → Bool} (h : ∀ m k, m < k → k < c → (tg m k = true ↔ t1 m k = true ∨ t2 m k = true) ∧ ¬ (t1 m k = true ∧ t2 m k = true)) : sumT x tg c = sumT x t1 c + sumT x t2 c :=
  PSm_add c (fun m k h1 h2 => by
    obtain ⟨a, b⟩ := h m k h1 h2
    show (if tg m k = true then x m k else 0) = (if t1 m k = true then x m k else 0) + (if t2 m k = true then x m k else 0)
    by_cases c1 : t1 m k = true
    · rw [if_pos (a.2 (Or.inl c1)), if_pos c1, if_neg (fun z => b ⟨c1, z⟩)]; omega
    · rw [if_neg c1]
      by_cases c2 : t2 m k = true
      · rw [if_pos (a.2 (Or.inr c2)), if_pos c2]; omega
      · rw [if_neg (fun z => (a.1 z).elim c1 c2), if_neg c2]; rfl)
def mkS (b : Nat → Bool) : Nat := (if b 0 = true then 1 else 0) + (if b 1 = true then 2 else 0) + (if b 2 = true then 4 else 0) + (if b 3 = true then 8 else 0) + (if b 4 = true then 16 else 0) + (if b 5 = true then 32 else 0)
theorem mkS_lt (b : Nat → Bool) : mkS b < 64 := by
  unfold mkS
  repeat' split
  all_goals omega
theorem mkS_bt (b : Nat → Bool) : ∀ j, j < 6 → zbt (mkS b) j = b j := by
  have key : ∀ b0 b1 b2 b3 b4 b5 : Bool, ∀ j, j < 6 → zbt ((if b0 = true then 1 else 0) + (if b1 = true then 2 else 0) + (if b2 = true then 4 else 0) + (if b3 = true then 8 else 0) + (if b4 = true then 16 else 0) + (if b5 = true then 32 else 0)) j = [b0, b1, b2, b3, b4, b5].getD j false := by decide +kernel
  intro j hj
  have h := key (b 0) (b 1) (b 2) (b 3) (b 4) (b 5) j hj
  have e : [b 0, b 1, b 2, b 3, b 4, b 5].getD j false = b j := by
    rcases (show j = 0 ∨ j = 1 ∨ j = 2 ∨ j = 3 ∨ j = 4 ∨ j = 5 by omega) with q | q | q | q | q | q <;> subst q <;> rfl
  rw [e] at h
  exact h
theorem sb_of : ∀ s, s < 64 → ∀ k, k < 64 → (∀ j, j < 6 → zbt k j = true → zbt s j = true) → k &&& s = k := by decide +kernel
theorem sb_to : ∀ s, s < 64 → ∀ k, k < 64 → k &&& s = k → ∀ j, j < 6 → zbt k j = true → zbt s j = true := by decide +kernel
theorem lw_ex : ∀ s, s < 64 → 0 < s → ∃ l, l < 6 ∧ lowB s = 2 ^ l ∧ zbt s l = true ∧ ∀ j, j < l → zbt s j = false := by decide +kernel
theorem hit_if : ∀ k, k < 64 → ∀ l, l < 6 → (zbt k l = true ↔ ¬ k &&& 2 ^ l = 0) := by decide +kernel
theorem xr_bt : ∀ s, s < 64 → ∀ k, k < 64 → k &&& s = k → ∀ j, j < 6 → zbt (s ^^^ k) j = (zbt s j && !zbt k j) := by decide +kernel
theorem full_bt : ∀ c, c < 7 → ∀ j, j < c → zbt (2 ^ c - 1) j = true := by decide +kernel
theorem zbt_0 (j : Nat) : zbt 0 j = false := by
  refine decide_eq_false ?_
  rw [Nat.zero_div]
  omega
section AN
variable {x : Nat → Nat → Int} {c : Nat} {M : Nat → Int}
def mOK (x : Nat → Nat → Int) (c : Nat) (M : Nat → Int) : Prop := M 0 = 0 ∧ (∀ s, s < 2 ^ c → 0 ≤ M s) ∧ ∀ s, 0 < s → s < 2 ^ c → (∀ k, prt s k = true → sumT x (sT k) c + M (s ^^^ k) ≤ M s) ∧ ∃ k, prt s k = true ∧ ¬ badT x (sT k) c ∧ M s = sumT x (sT k) c + M (s ^^^ k)
theorem lT_0 {e : Nat → Nat} {m k : Nat} : lT 0 e m k = false := by rw [lT, zbt_0, Bool.false_and, Bool.false_and]
theorem an_ub (hc : c ≤ 6) (hM : mOK x c M) (e : Nat → Nat) : ∀ n s, s ≤ n → s < 2 ^ c → sumT x (lT s e) c ≤ M s
  | n, 0, _, _ => by
    have h : sumT x (lT 0 e) c = 0 := PSm_0 c (fun m k _ _ => by
      show (if lT 0 e m k = true then x m k else 0) = 0
      rw [lT_0]; rfl)
    rw [h, hM.1]
    exact Int.le_refl _
  | 0, s + 1, h, _ => by omega
  | n + 1, s + 1, hn, hs => by
    have h64 : 2 ^ c ≤ 64 := show 2 ^ c ≤ 2 ^ 6 from Nat.pow_le_pow_right (by omega) hc
    obtain ⟨S, hS⟩ : ∃ S, S = s + 1 := ⟨_, rfl⟩
    rw [← hS] at hn hs ⊢
    obtain ⟨l, l1, l2, l3, l4⟩ := lw_ex S (by omega) (by omega)
    have hk64 := mkS_lt (fun j => zbt S j && decide (e j = e l))
    have hkb := mkS_bt (fun j => zbt S j && decide (e j = e l))
    obtain ⟨k, hk⟩ : ∃ k, k = mkS (fun j => zbt S j && decide (e j = e l)) := ⟨_, rfl⟩
    rw [← hk] at hk64 hkb
    have hks : k &&& S = k := sb_of S (by omega) k hk64 (fun j hj h => by
      rw [hkb j hj, Bool.and_eq_true] at h
      exact h.1)
    have hkl : ¬ k &&& lowB S = 0 := by
      rw [l2]
      refine (hit_if k hk64 l l1).1 ?_
      rw [hkb l l1, l3, decide_eq_true rfl]; rfl
    have hp : prt S k = true := (prt_if S k).2 ⟨hks, hkl⟩
    have h0 : 0 < k := by
      rcases Nat.eq_zero_or_pos k with z | z
      · exact absurd (by rw [z, Nat.zero_and]) hkl
      · exact z
    have hlt := (sub_xor S (by omega) k hk64 hks).2 h0
    have ih := an_ub hc hM e n (S ^^^ k) (by omega) (by omega)
    have hm := (hM.2.2 S (by omega) hs).1 k hp
    have hsum : sumT x (lT S e) c = sumT x (sT k) c + sumT x (lT (S ^^^ k) e) c := sumT_un (fun m j h1 h2 => by
      have b1 := hkb m (by omega)
      have b2 := hkb j (by omega)
      have b3 := xr_bt S (by omega) k hk64 hks m (by omega)
      have b4 := xr_bt S (by omega) k hk64 hks j (by omega)
      unfold lT sT
      rw [b3, b4, b1, b2]
      cases zbt S m <;> cases zbt S j <;> by_cases c1 : e m = e l <;> by_cases c2 : e j = e l <;> by_cases c3 : e m = e j <;> simp [c1, c2, c3] <;> first | exact absurd (c1.trans c2.symm) c3 | exact absurd (c3.symm.trans c1) c2 | exact absurd (c3.trans c2) c1 | omega)
    omega
theorem an_lb (hc : c ≤ 6) (hM : mOK x c M) : ∀ n s t, s ≤ n → s < 2 ^ c → ∃ e : Nat → Nat, (∀ j, j < 6 → zbt s j = true → t ≤ e j) ∧ (∀ j, j < 6 → zbt s j = true → t < e j → ∃ i, i < j ∧ zbt s i = true ∧ e i + 1 = e j) ∧ sumT x (lT s e) c = M s ∧ ¬ badT x (lT s e) c
  | n, 0, t, _, _ => ⟨fun _ => 0, fun j _ h => (by rw [zbt_0] at h; cases h), fun j _ h => (by rw [zbt_0] at h; cases h), by
    rw [hM.1]
    exact PSm_0 c (fun m k _ _ => by
      show (if lT 0 _ m k = true then x m k else 0) = 0
      rw [lT_0]; rfl), fun ⟨m, k, _, _, h, _⟩ => (by rw [lT_0] at h; cases h)⟩
  | 0, s + 1, t, h, _ => by omega
  | n + 1, s + 1, t, hn, hs => by
    have h64 : 2 ^ c ≤ 64 := show 2 ^ c ≤ 2 ^ 6 from Nat.pow_le_pow_right (by omega) hc
    obtain ⟨S, hS⟩ : ∃ S, S = s + 1 := ⟨_, rfl⟩
    rw [← hS] at hn hs ⊢
    obtain ⟨k, hp, hnb, hMs⟩ := (hM.2.2 S (by omega) hs).2
    obtain ⟨hks, hkl⟩ := (prt_if S k).1 hp
    have hkS : k ≤ S := by rw [← hks]; exact Nat.and_le_right
    have hk64 : k < 64 := by omega
    have h0 : 0 < k := by
      rcases Nat.eq_zero_or_pos k with z | z
      · exact absurd (by rw [z, Nat.zero_and]) hkl
      · exact z
    have hlt := (sub_xor S (by omega) k hk64 hks).2 h0
    obtain ⟨l, l1, l2, l3, l4⟩ := lw_ex S (by omega) (by omega)
    have hkl2 : zbt k l = true := (hit_if k hk64 l l1).2 (by rw [← l2]; exact hkl)
    obtain ⟨e, i1, i2, i3, i4⟩ := an_lb hc hM n (S ^^^ k) (t + 1) (by omega) (by omega)
    have xb : ∀ j, j < 6 → zbt (S ^^^ k) j = (zbt S j && !zbt k j) := xr_bt S (by omega) k hk64 hks
    have kb : ∀ j, j < 6 → zbt k j = true → zbt S j = true := sb_to S (by omega) k hk64 hks
    have inx : ∀ j, j < 6 → zbt S j = true → ¬ zbt k j = true → zbt (S ^^^ k) j = true := fun j hj h1 h2 => by
      rw [xb j hj, h1]
      cases h : zbt k j with
      | false => rfl
      | true => exact absurd h h2
    have hun : ∀ m j, m < j → j < c → (lT S (fun j => if zbt k j = true then t else e j) m j = true ↔ sT k m j = true ∨ lT (S ^^^ k) e m j = true) ∧ ¬ (sT k m j = true ∧ lT (S ^^^ k) e m j = true) := fun m j h1 h2 => by
      have km := kb m (by omega)
      have kj := kb j (by omega)
      have xm := xb m (by omega)
      have xj := xb j (by omega)
      have lm := i1 m (by omega)
      have lj := i1 j (by omega)
      unfold lT sT
      rw [xm, xj]
      rw [xm] at lm
      rw [xj] at lj
      cases cm : zbt k m <;> cases cj : zbt k j
      · simp [cm, cj]
      · rw [kj cj]
        cases sm : zbt S m
        · simp
        · have := lm (by rw [sm, cm]; rfl)
          simp [cm, cj]
          omega
      · rw [km cm]
        cases sj : zbt S j
        · simp
        · have := lj (by rw [sj, cj]; rfl)
          simp [cm, cj]
          omega
      · rw [km cm, kj cj]
        simp [cm, cj]
    refine ⟨fun j => if zbt k j = true then t else e j, fun j hj h => ?_, fun j hj h hl => ?_, ?_, fun hb => ?_⟩
    · show t ≤ (if zbt k j = true then t else e j)
      by_cases cj : zbt k j = true
      · rw [if_pos cj]; exact Nat.le_refl t
      · rw [if_neg cj]
        have := i1 j hj (inx j hj h cj)
        omega
    · have hl2 : t < (if zbt k j = true then t else e j) := hl
      show ∃ i, i < j ∧ zbt S i = true ∧ (if zbt k i = true then t else e i) + 1 = (if zbt k j = true then t else e j)
      by_cases cj : zbt k j = true
      · rw [if_pos cj] at hl2; omega
      · rw [if_neg cj] at hl2 ⊢
        have hjx := inx j hj h cj
        by_cases ce : e j = t + 1
        · refine ⟨l, ?_, l3, by rw [if_pos hkl2, ce]⟩
          rcases Nat.lt_trichotomy l j with q | q | q
          · exact q
          · rw [q] at hkl2; exact absurd hkl2 cj
          · rw [l4 j q] at h; cases h
        · obtain ⟨i, a1, a2, a3⟩ := i2 j hj hjx (by have := i1 j hj hjx; omega)
          have hi6 : i < 6 := by omega
          rw [xb i hi6, Bool.and_eq_true] at a2
          refine ⟨i, a1, a2.1, ?_⟩
          rw [if_neg (fun z => by rw [z] at a2; exact Bool.false_ne_true a2.2)]
          exact a3
    · rw [sumT_un hun, i3, hMs]
    · obtain ⟨m, j, h1, h2, h3, h4⟩ := hb
      rcases (hun m j h1 h2).1.1 h3 with q | q
      · exact hnb ⟨m, j, h1, h2, q, h4⟩
      · exact i4 ⟨m, j, h1, h2, q, h4⟩
end AN
/-! the groupings as rows of six numbers -/
def fL (l : List Nat) (j : Nat) : Int32 := nI (l.getD j 0)
def ggl (l : List Nat) : Nat → Nat
  | 0 => 0
  | k + 1 => max (ggl l k) (l.getD k 0)
def goL : Nat → List Nat → List Nat
  | 0, l => l
  | k + 1, l => if k = 0 then l else if l.getD k 0 ≤ ggl l k then l.set k (l.getD k 0 + 1) else goL k (l.set k 0)
def gbL : Nat → List Nat → Bool
  | 0, _ => false
  | k + 1, l => if k = 0 then false else if l.getD k 0 ≤ ggl l k then true else gbL k (l.set k 0)
def vis (c : Nat) : Nat → List Nat → List (List Nat)
  | 0, _ => []
  | f + 1, l => if gbL c l = true then goL c l :: vis c f (goL c l) else []
def z6 : List Nat := [0, 0, 0, 0, 0, 0]
def bL (B : Nat) (l : List Nat) : Prop := l.length = 6 ∧ ∀ j, l.getD j 0 ≤ B
theorem getD_set {l : List Nat} {k v : Nat} (hk : k < l.length) (j : Nat) : (l.set k v).getD j 0 = if j = k then v else l.getD j 0 := by
  rw [List.getD_eq_getElem?_getD, List.getD_eq_getElem?_getD, List.getElem?_set]
  by_cases e : j = k
  · subst e
    simp [hk]
  · rw [if_neg (fun z => e z.symm), if_neg e]
theorem fL_set {l : List Nat} {k v : Nat} (hk : k < l.length) : upd (fL l) k (nI v) = fL (l.set k v) := by
  funext j
  simp only [upd, fL]
  rw [getD_set hk]
  split <;> rfl
theorem bL_set {l : List Nat} {B B2 k v : Nat} (h : bL B l) (hk : k < 6) (hv : v ≤ B2) (hB : B ≤ B2) : bL B2 (l.set k v) := by
  refine ⟨by rw [List.length_set]; exact h.1, fun j => ?_⟩
  rw [getD_set (by rw [h.1]; exact hk)]
  have := h.2 j
  split <;> omega
theorem mx_nI {a b : Nat} (ha : a < 2000) (hb : b < 2000) : mx (nI a) (nI b) = nI (max a b) := by
  unfold mx
  by_cases c : a < b
  · rw [if_pos ((nI_ltI (by omega) (by omega)).2 c), Nat.max_eq_right (by omega)]
  · rw [if_neg (fun z => c ((nI_ltI (by omega) (by omega)).1 z)), Nat.max_eq_left (by omega)]
theorem ggl_b {l : List Nat} {B : Nat} (h : bL B l) : ∀ k, ggl l k ≤ B
  | 0 => Nat.zero_le _
  | k + 1 => by
    have ih := ggl_b h k
    have h2 := h.2 k
    rw [ggl]
    exact Nat.max_le.2 ⟨ih, h2⟩
theorem ggb_L {l : List Nat} {B : Nat} (h : bL B l) (hB : B < 1000) : ∀ k, ggb (fL l) k = nI (ggl l k)
  | 0 => rfl
  | k + 1 => by
    have h1 := ggl_b h k
    have h2 := h.2 k
    rw [ggb, ggb_L h hB k, ggl]
    exact mx_nI (by omega) (by omega)
theorem go_L {B : Nat} (hB : B < 1000) : ∀ (k : Nat) (l : List Nat), k ≤ 6 → bL B l → goG (fL l) k = fL (goL k l) ∧ goB (fL l) k = gbL k l ∧ bL (B + 1) (goL k l)
  | 0, l, _, h => ⟨rfl, rfl, h.1, fun j => by have := h.2 j; rw [goL]; omega⟩
  | k + 1, l, hk, h => by
    rw [goG, goB, goL, gbL]
    by_cases c0 : k = 0
    · rw [if_pos c0, if_pos c0, if_pos c0, if_pos c0]
      exact ⟨rfl, rfl, h.1, fun j => by have := h.2 j; omega⟩
    · rw [if_neg c0, if_neg c0, if_neg c0, if_neg c0, ggb_L h hB]
      have h1 := ggl_b h k
      have h2 := h.2 k
      have e : fL l k ≤ nI (ggl l k) ↔ l.getD k 0 ≤ ggl l k := nI_leI (by omega) (by omega)
      by_cases c1 : l.getD k 0 ≤ ggl l k
      · rw [if_pos (e.2 c1), if_pos (e.2 c1), if_pos c1, if_pos c1]
        refine ⟨?_, rfl, bL_set h (by omega) (by omega) (by omega)⟩
        rw [← fL_set (by rw [h.1]; omega)]
        show upd (fL l) k (nI (l.getD k 0) + nI 1) = _
        rw [nI_add]
      · rw [if_neg (fun z => c1 (e.1 z)), if_neg (fun z => c1 (e.1 z)), if_neg c1, if_neg c1, fL_set (by rw [h.1]; omega)]
        exact go_L hB k (l.set k 0) (by omega) (bL_set h (by omega) (by omega) (Nat.le_refl B))
theorem ba_L {pw : Nat → Int32} {c : Nat} (hc : c ≤ 6) : ∀ (f : Nat) (l : List Nat) (b : Int32) (B : Nat), bL B l → B + f < 1000 →
    b.toInt ≤ (baF pw c f (fL l) b).toInt ∧ (∀ l', l' ∈ vis c f l → (wOf (groT (fL l')) pw c).toInt ≤ (baF pw c f (fL l) b).toInt) ∧ (baF pw c f (fL l) b = b ∨ ∃ l', l' ∈ vis c f l ∧ baF pw c f (fL l) b = wOf (groT (fL l')) pw c) ∧ (∀ l', l' ∈ vis c f l → bL 1000 l')
  | 0, l, b, B, h, hf => ⟨Int.le_refl _, fun l' hl => (by cases hl), Or.inl rfl, fun l' hl => (by cases hl)⟩
  | f + 1, l, b, B, h, hf => by
    obtain ⟨g1, g2, g3⟩ := go_L (show B < 1000 by omega) c l hc h
    rw [baF, vis, g1, g2]
    cases hg : gbL c l with
    | false => exact ⟨Int.le_refl _, fun l' hl => (by cases hl), Or.inl rfl, fun l' hl => (by cases hl)⟩
    | true =>
      obtain ⟨a1, a2, a3, a4⟩ := ba_L (pw := pw) hc f (goL c l) (mx b (wOf (groT (fL (goL c l))) pw c)) (B + 1) g3 (by omega)
      show b.toInt ≤ (baF pw c f (fL (goL c l)) (mx b (wOf (groT (fL (goL c l))) pw c))).toInt ∧ (∀ l', l' ∈ goL c l :: vis c f (goL c l) → (wOf (groT (fL l')) pw c).toInt ≤ (baF pw c f (fL (goL c l)) (mx b (wOf (groT (fL (goL c l))) pw c))).toInt) ∧ (baF pw c f (fL (goL c l)) (mx b (wOf (groT (fL (goL c l))) pw c)) = b ∨ ∃ l', l' ∈ goL c l :: vis c f (goL c l) ∧ baF pw c f (fL (goL c l)) (mx b (wOf (groT (fL (goL c l))) pw c)) = wOf (groT (fL l')) pw c) ∧ (∀ l', l' ∈ goL c l :: vis c f (goL c l) → bL 1000 l')
      refine ⟨Int.le_trans (mx_1 _ _) a1, fun l' hl => ?_, ?_, fun l' hl => ?_⟩
      · rcases List.mem_cons.mp hl with q | q
        · rw [q]; exact Int.le_trans (mx_2 _ _) a1
        · exact a2 l' q
      · rcases a3 with q | ⟨l', q1, q2⟩
        · rw [q]
          rcases mx_3 b (wOf (groT (fL (goL c l))) pw c) with z | z
          · exact Or.inl z.1
          · exact Or.inr ⟨_, List.mem_cons_self, z.1⟩
        · exact Or.inr ⟨l', List.mem_cons_of_mem _ q1, q2⟩
      · rcases List.mem_cons.mp hl with q | q
        · rw [q]; exact ⟨g3.1, fun j => by have := g3.2 j; omega⟩
        · exact a4 l' q
