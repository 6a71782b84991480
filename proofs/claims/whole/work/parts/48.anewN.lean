def rgZ (c : Nat) (l : List Nat) : Bool := (List.range 6).all (fun j => Nat.blt j c || Nat.beq (l.getD j 0) 0)
def rgG (l : List Nat) : Bool := (List.range 6).all (fun j => Nat.beq (l.getD j 0) 0 || (List.range j).any (fun i => Nat.beq (l.getD i 0 + 1) (l.getD j 0)))
def leq : List Nat → List Nat → Bool
  | [], [] => true
  | a :: l, b :: r => Nat.beq a b && leq l r
  | _, _ => false
theorem leq_eq : ∀ {l r : List Nat}, leq l r = true → l = r
  | [], [], _ => rfl
  | a :: l, b :: r, h => by
    rw [leq, Bool.and_eq_true] at h
    rw [Nat.eq_of_beq_eq_true h.1, leq_eq h.2]
  | [], b :: r, h => by cases h
  | a :: l, [], h => by cases h
def rgV (c : Nat) (l : List Nat) : Bool := leq l z6 || (vis c 202 z6).any (fun q => leq q l)
def rgA (c : Nat) : Bool := (List.range 2).all fun f1 => (List.range 3).all fun f2 => (List.range 4).all fun f3 => (List.range 5).all fun f4 => (List.range 6).all fun f5 => !(rgZ c [0, f1, f2, f3, f4, f5]) || !(rgG [0, f1, f2, f3, f4, f5]) || rgV c [0, f1, f2, f3, f4, f5]
theorem rgA_0 : rgA 0 = true := by decide +kernel
theorem rgA_1 : rgA 1 = true := by decide +kernel
theorem rgA_2 : rgA 2 = true := by decide +kernel
theorem rgA_3 : rgA 3 = true := by decide +kernel
theorem rgA_4 : rgA 4 = true := by decide +kernel
theorem rgA_5 : rgA 5 = true := by decide +kernel
theorem rgA_6 : rgA 6 = true := by decide +kernel
theorem rgA_c {c : Nat} (hc : c ≤ 6) : rgA c = true := by
  rcases (show c = 0 ∨ c = 1 ∨ c = 2 ∨ c = 3 ∨ c = 4 ∨ c = 5 ∨ c = 6 by omega) with q | q | q | q | q | q | q <;> subst q
  · exact rgA_0
  · exact rgA_1
  · exact rgA_2
  · exact rgA_3
  · exact rgA_4
  · exact rgA_5
  · exact rgA_6
theorem rg_all {c f1 f2 f3 f4 f5 : Nat} (hc : c ≤ 6) (h1 : f1 < 2) (h2 : f2 < 3) (h3 : f3 < 4) (h4 : f4 < 5) (h5 : f5 < 6) (hz : rgZ c [0, f1, f2, f3, f4, f5] = true) (hg : rgG [0, f1, f2, f3, f4, f5] = true) : [0, f1, f2, f3, f4, f5] = z6 ∨ [0, f1, f2, f3, f4, f5] ∈ vis c 202 z6 := by
  have h := rgA_c hc
  rw [rgA, List.all_eq_true] at h
  have h := h f1 (List.mem_range.2 h1)
  rw [List.all_eq_true] at h
  have h := h f2 (List.mem_range.2 h2)
  rw [List.all_eq_true] at h
  have h := h f3 (List.mem_range.2 h3)
  rw [List.all_eq_true] at h
  have h := h f4 (List.mem_range.2 h4)
  rw [List.all_eq_true] at h
  have h := h f5 (List.mem_range.2 h5)
  rw [hz, hg] at h
  have hV : rgV c [0, f1, f2, f3, f4, f5] = true := h
  rw [rgV, Bool.or_eq_true, List.any_eq_true] at hV
  rcases hV with q | ⟨r, q1, q2⟩
  · exact Or.inl (leq_eq q)
  · rw [← leq_eq q2]
    exact Or.inr q1
theorem z6_D (j : Nat) : z6.getD j 0 = 0 := by
  match j with
  | 0 => rfl
  | 1 => rfl
  | 2 => rfl
  | 3 => rfl
  | 4 => rfl
  | 5 => rfl
  | j + 6 => rfl
theorem z6_f : (fun _ => nI 0) = fL z6 := by
  funext j
  rw [fL, z6_D]
theorem rg_mem {c : Nat} (hc : c ≤ 6) {E : Nat → Nat} (hz : ∀ j, j < 6 → c ≤ j → E j = 0) (hg : ∀ j, j < 6 → E j = 0 ∨ ∃ i, i < j ∧ E i + 1 = E j) : [E 0, E 1, E 2, E 3, E 4, E 5] = z6 ∨ [E 0, E 1, E 2, E 3, E 4, E 5] ∈ vis c 202 z6 := by
  have hle : ∀ n j, j ≤ n → j < 6 → E j ≤ j := by
    intro n
    induction n with
    | zero =>
      intro j hj hj6
      rcases hg j hj6 with q | ⟨i, q, _⟩
      · omega
      · omega
    | succ n ih =>
      intro j hj hj6
      rcases hg j hj6 with q | ⟨i, q1, q2⟩
      · omega
      · have := ih i (by omega) (by omega)
        omega
  have h0 := hle 6 0 (by omega) (by omega)
  have h1 := hle 6 1 (by omega) (by omega)
  have h2 := hle 6 2 (by omega) (by omega)
  have h3 := hle 6 3 (by omega) (by omega)
  have h4 := hle 6 4 (by omega) (by omega)
  have h5 := hle 6 5 (by omega) (by omega)
  have e0 : E 0 = 0 := by omega
  have hD : ∀ j, j < 6 → [0, E 1, E 2, E 3, E 4, E 5].getD j 0 = E j := fun j hj => by
    rcases (show j = 0 ∨ j = 1 ∨ j = 2 ∨ j = 3 ∨ j = 4 ∨ j = 5 by omega) with q | q | q | q | q | q <;> subst q <;> first | rfl | exact e0.symm
  rw [e0]
  refine rg_all hc (by omega) (by omega) (by omega) (by omega) (by omega) ?_ ?_
  · rw [rgZ, List.all_eq_true]
    intro j hj
    have hj6 := List.mem_range.1 hj
    show (Nat.blt j c || Nat.beq ([0, E 1, E 2, E 3, E 4, E 5].getD j 0) 0) = true
    rw [hD j hj6, Bool.or_eq_true]
    rcases Nat.lt_or_ge j c with q | q
    · exact Or.inl (Nat.ble_eq_true_of_le q)
    · rw [hz j hj6 q]; exact Or.inr rfl
  · rw [rgG, List.all_eq_true]
    intro j hj
    have hj6 := List.mem_range.1 hj
    show (Nat.beq ([0, E 1, E 2, E 3, E 4, E 5].getD j 0) 0 || (List.range j).any (fun i => Nat.beq ([0, E 1, E 2, E 3, E 4, E 5].getD i 0 + 1) ([0, E 1, E 2, E 3, E 4, E 5].getD j 0))) = true
    rw [hD j hj6, Bool.or_eq_true, List.any_eq_true]
    rcases hg j hj6 with q | ⟨i, q1, q2⟩
    · rw [q]; exact Or.inl rfl
    · refine Or.inr ⟨i, List.mem_range.2 q1, ?_⟩
      rw [hD i (by omega), q2]
      exact Nat.beq_refl _
theorem an_ok {x : Nat → Nat → Int} {c : Nat} {M : Nat → Int} {pw : Nat → Int32} (hx : xOK x c) (hc : c ≤ 6) (hp : ∀ i j, i < j → j < c → (pw (i * 6 + j)).toInt = x i j) (hM : mOK x c M) :
    (baF pw c 202 (fun _ => nI 0) (wOf (groT (fun _ => nI 0)) pw c)).toInt = M (2 ^ c - 1) := by
  have h1 : 1 ≤ 2 ^ c := Nat.one_le_two_pow
  have hfull := full_bt c (by omega)
  have hb0 : bL 0 z6 := ⟨rfl, fun j => by rw [z6_D]; exact Nat.le_refl 0⟩
  rw [z6_f]
  obtain ⟨a1, a2, a3, a4⟩ := ba_L (pw := pw) hc 202 z6 (wOf (groT (fL z6)) pw c) 0 hb0 (by omega)
  have tg : ∀ l, bL 1000 l → ∀ m k, m < k → k < c → groT (fL l) m k = lT (2 ^ c - 1) (fun j => l.getD j 0) m k := fun l hl m k h2 h3 => by
    rw [lT, hfull m (by omega), hfull k h3]
    have e1 := hl.2 m
    have e2 := hl.2 k
    show decide (nI (l.getD m 0) = nI (l.getD k 0)) = (true && true && decide (l.getD m 0 = l.getD k 0))
    rw [Bool.and_self, Bool.true_and]
    by_cases e : l.getD m 0 = l.getD k 0
    · rw [e]; simp
    · rw [decide_eq_false e, decide_eq_false (fun z => e ((nI_eq (by omega) (by omega)).1 z))]
  have ub : ∀ l, bL 1000 l → (wOf (groT (fL l)) pw c).toInt ≤ M (2 ^ c - 1) := fun l hl => by
    obtain ⟨w1, w2⟩ := wOf_T (tg := groT (fL l)) hx hc hp
    by_cases hb : badT x (groT (fL l)) c
    · rw [w1 hb, no_int]
      have := hM.2.1 (2 ^ c - 1) (by omega)
      omega
    · rw [w2 hb, sumT_cg (tg l hl)]
      exact an_ub hc hM _ (2 ^ c - 1) (2 ^ c - 1) (Nat.le_refl _) (by omega)
  have up : (baF pw c 202 (fL z6) (wOf (groT (fL z6)) pw c)).toInt ≤ M (2 ^ c - 1) := by
    rcases a3 with q | ⟨l, q1, q2⟩
    · rw [q]; exact ub z6 ⟨rfl, fun j => by rw [z6_D]; omega⟩
    · rw [q2]; exact ub l (a4 l q1)
  obtain ⟨e, i1, i2, i3, i4⟩ := an_lb hc hM (2 ^ c - 1) (2 ^ c - 1) 0 (Nat.le_refl _) (by omega)
  have hgr : ∀ j, j < 6 → (if j < c then e j else 0) = 0 ∨ ∃ i, i < j ∧ (if i < c then e i else 0) + 1 = (if j < c then e j else 0) := fun j hj => by
    by_cases cj : j < c
    · rw [if_pos cj]
      rcases Nat.eq_zero_or_pos (e j) with q | q
      · exact Or.inl q
      · obtain ⟨i, b1, b2, b3⟩ := i2 j hj (hfull j cj) q
        exact Or.inr ⟨i, b1, by rw [if_pos (by omega)]; exact b3⟩
    · rw [if_neg cj]; exact Or.inl rfl
  have hmem := rg_mem (E := fun j => if j < c then e j else 0) hc (fun j _ hcj => if_neg (by omega)) hgr
  obtain ⟨L, hL⟩ : ∃ L, L = [(if 0 < c then e 0 else 0), (if 1 < c then e 1 else 0), (if 2 < c then e 2 else 0), (if 3 < c then e 3 else 0), (if 4 < c then e 4 else 0), (if 5 < c then e 5 else 0)] := ⟨_, rfl⟩
  have hLD : ∀ j, j < c → L.getD j 0 = e j := fun j hj => by
    rw [hL]
    rcases (show j = 0 ∨ j = 1 ∨ j = 2 ∨ j = 3 ∨ j = 4 ∨ j = 5 by omega) with q | q | q | q | q | q <;> subst q <;> exact if_pos hj
  have hmem2 : L = z6 ∨ L ∈ vis c 202 z6 := by rw [hL]; exact hmem
  have hLb : bL 1000 L := by
    rcases hmem2 with q | q
    · rw [q]; exact ⟨rfl, fun j => by rw [z6_D]; omega⟩
    · exact a4 L q
  have cg : ∀ m k, m < k → k < c → groT (fL L) m k = lT (2 ^ c - 1) e m k := fun m k h2 h3 => by
    rw [tg L hLb m k h2 h3, lT, lT, hLD m (by omega), hLD k h3]
  have lo : M (2 ^ c - 1) ≤ (baF pw c 202 (fL z6) (wOf (groT (fL z6)) pw c)).toInt := by
    have hv : (wOf (groT (fL L)) pw c).toInt = M (2 ^ c - 1) := by
      obtain ⟨w1, w2⟩ := wOf_T (tg := groT (fL L)) hx hc hp
      rw [w2 (fun z => i4 (badT_cg cg z)), sumT_cg cg, i3]
    rw [← hv]
    rcases hmem2 with q | q
    · rw [q]; exact a1
    · exact a2 L q
  omega
