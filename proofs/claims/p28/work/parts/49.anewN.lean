def rgZ (c : Nat) (l : List Nat) : Bool := (List.range 6).all (fun j => Nat.blt j c || Nat.beq (l.getD j 0) 0)
def rgG (l : List Nat) : Bool := (List.range 6).all (fun j => Nat.beq (l.getD j 0) 0 || (List.range j).any (fun i => Nat.beq (l.getD i 0 + 1) (l.getD j 0)))
def leq : List Nat → List Nat → Bool
  | [], [] => true
  | a :: l, b :: r => Nat.beq a b && leq l r
  | _, _ => false
theorem leq_eq : ∀ {l r : List Nat}, leq l r = true → l = r
  | [], [], _ => rfl
  | a :: l, b :: r, h => by
    rw [leq, Bool.and_eq_true] at h
    rw [Nat.eq_of_beq_eq_true h.1, leq_eq h.2]
  | [], b :: r, h => by cases h
  | a :: l, [], h => by cases h
def rgV (c : Nat) (l : List Nat) : Bool := leq l z6 || (vis c 202 z6).any (fun q => leq q l)
def rgA (c : Nat) : Bool := (List.range 2).all fun f1 => (List.range 3).all fun f2 => (List.range 4).all fun f3 => (List.range 5).all fun f4 => (List.range 6).all fun f5 => !(rgZ c [0, f1, f2, f3, f4, f5]) || !(rgG [0, f1, f2, f3, f4, f5]) || rgV c [0, f1, f2, f3, f4, f5]
theorem rgA_0 : rgA 0 = true := by decide +kernel
theorem rgA_1 : rgA 1 = true := by decide +kernel
theorem rgA_2 : rgA 2 = true := by decide +kernel
theorem rgA_3 : rgA 3 = true := by decide +kernel
theorem rgA_4 : rgA 4 = true := by decide +kernel
theorem rgA_5 : rgA 5 = true := by decide +kernel
theorem rgA_6 : rgA 6 = true := by decide +kernel
theorem rgA_c {c : Nat} (hc : c ≤ 6) : rgA c = true := by
  rcases (show c = 0 ∨ c = 1 ∨ c = 2 ∨ c = 3 ∨ c = 4 ∨ c = 5 ∨ c = 6 by omega) with q | q | q | q | q | q | q <;> subst q
  · exact rgA_0
  · exact rgA_1
  · exact rgA_2
  · exact rgA_3
  · exact rgA_4
  · exact rgA_5
  · exact rgA_6
theorem rg_all {c f1 f2 f3 f4 f5 : Nat} (hc : c ≤ 6) (h1 : f1 < 2) (h2 : f2 < 3) (h3 : f3 < 4) (h4 : f4 < 5) (h5 : f5 < 6) (hz : rgZ c [0, f1, f2, f3, f4, f5] = true) (hg : rgG [0, f1, f2, f3, f4, f5] = true) : [0, f1, f2, f3, f4, f5] = z6 ∨ [0, f1, f2, f3, f4, f5] ∈ vis c 202 z6 := by
  have h := rgA_c hc
  rw [rgA, List.all_eq_true] at h
  have h := h f1 (List.mem_range.2 h1)
  rw [List.all_eq_true] at h
  have h := h f2 (List.mem_range.2 h2)
  rw [List.all_eq_true] at h
  have h := h f3 (List.mem_range.2 h3)
  rw [List.all_eq_true] at h
  have h := h f4 (List.mem_range.2 h4)
  rw [List.all_eq_true] at h
  have h := h f5 (List.mem_range.2 h5)
  rw [hz, hg] at h
  have hV : rgV c [0, f1, f2, f3, f4, f5] = true := h
  rw [rgV, Bool.or_eq_true, List.any_eq_true] at hV
  rcases hV with q | ⟨r, q1, q2⟩
  · exact Or.inl (leq_eq q)
  · rw [← leq_eq q2]
    exact Or.inr q1
theorem z6_D (j : Nat) : z6.getD j 0 = 0 := by
  match j with
  | 0 => rfl
  | 1 => rfl
  | 2 => rfl
  | 3 => rfl
  | 4 => rfl
  | 5 => rfl
  | j + 6 => rfl
theorem z6_f : (fun _ => nI 0) = fL z6 := by
  funext j
  rw [fL, z6_D]
theorem rg_mem {c : Nat} (hc : c ≤ 6) {E : Nat → Nat} (hz : ∀ j, j < 6 → c ≤ j → E j = 0) (hg : ∀ j, j < 6 → E j = 0 ∨ ∃ i, i < j ∧ E i + 1 = E j) : [E 0, E 1, E 2, E 3, E 4, E 5] = z6 ∨ [E 0, E 1, E 2, E 3, E 4, E 5] ∈ vis c 202 z6 := by
  have hle : ∀ n j, j ≤ n → j < 6 → E j ≤ j := by
    intro n
    induction n with
    | zero =>
      intro j hj hj6
      rcases hg j hj6 with q | ⟨i, q, _⟩
      · omega
      · omega
    | succ n ih =>
      intro j hj hj6
      rcases hg j hj6 with q | ⟨i, q1, q2⟩
      · omega
      · have := ih i (by omega) (by omega)
        omega
  have h0 := hle 6 0 (by omega) (by omega)
  have h1 := hle 6 1 (by omega) (by omega)
  have h2 := hle 6 2 (by omega) (by omega)
  have h3 := hle 6 3 (by omega) (by omega)
  have h4 := hle 6 4 (by omega) (by omega)
  have h5 := hle 6 5 (by omega) (by omega)
  have e0 : E 0 = 0 := by omega
  have hD : ∀ j, j < 6 → [0, E 1, E 2, E 3, E 4, E 5].getD j 0 = E j := fun j hj => by
    rcases (show j = 0 ∨ j = 1 ∨ j = 2 ∨ j = 3 ∨ j = 4 ∨ j = 5 by omega) with q | q | q | q | q | q <;> subst q <;> first | rfl | exact e0.symm
  rw [e0]
  refine rg_all hc (by omega) (by omega) (by omega) (by omega) (by omega) ?_ ?_
  · rw [rgZ, List.all_eq_true]
    intro j hj
    have hj6 := List.mem_range.1 hj
    show (Nat.blt j c || Nat.beq ([0, E 1, E 2, E 3, E 4, E 5].getD j 0) 0) = true
    rw [hD j hj6, Bool.or_eq_true]
    rcases Nat.lt_or_ge j c with q | q
    · exact Or.inl (Nat.ble_eq_true_of_le q)
    · rw [hz j hj6 q]; exact Or.inr rfl
  · rw [rgG, List.all_eq_true]
    intro j hj
    have hj6 := List.mem_range.1 hj
    show (Nat.beq ([0, E 1, E 2, E 3, E 4, E 5].getD j 0) 0 || (List.range j).any (fun i => Nat.beq ([0, E 1, E 2, E 3, E 4, E 5].getD i 0 + 1) ([0, E 1, E 2, E 3, E 4, E 5].getD j 0))) = true
    rw [hD j hj6, Bool.or_eq_true, List.any_eq_true]
    rcases hg j hj6 with q | ⟨i, q1, q2⟩
    · rw [q]; exact Or.inl rfl
    · refine Or.inr ⟨i, List.mem_range.2 q1, ?_⟩
      rw [hD i (by omega), q2]
      exact Nat.beq_refl _
theorem an_ok {x : Nat → Nat → Int} {c : Nat} {M : Nat → Int} {pw : Nat → Int32} (hx : xOK x c) (hc : c ≤ 6) (hp : ∀ i j, i < j → j < c → (pw (i * 6 + j)).toInt = x i j) (hM : mOK x c M) :
    (baF pw c 202 (fun _ => nI 0) (wOf (groT (fun _ => nI 0)) pw c)).toInt = M (2 ^ c - 1) := by
  have h1 : 1 ≤ 2 ^ c := Nat.one_le_two_pow
  have hfull := full_bt c (by omega)
  have hb0 : bL 0 z6 := ⟨rfl, fun j => by rw [z6_D]; exact Nat.le_refl 0⟩
  rw [z6_f]
  obtain ⟨a1, a2, a3, a4⟩ := ba_L (pw := pw) hc 202 z6 (wOf (groT (fL z6)) pw c) 0 hb0 (by omega)
  have tg : ∀ l, bL 1000 l → ∀ m k, m < k → k < c → groT (fL l) m k = lT (2 ^ c - 1) (fun j => l.getD j 0) m k := fun l hl m k h2 h3 => by
    rw [lT, hfull m (by omega), hfull k h3]
    have e1 := hl.2 m
    have e2 := hl.2 k
    show decide (nI (l.getD m 0) = nI (l.getD k 0)) = (true && true && decide (l.getD m 0 = l.getD k 0))
    rw [Bool.and_self, Bool.true_and]
    by_cases e : l.getD m 0 = l.getD k 0
    · rw [e]; simp
    · rw [decide_eq_false e, decide_eq_false (fun z => e ((nI_eq (by omega) (by omega)).1 z))]
  have ub : ∀ l, bL 1000 l → (wOf (groT (fL l)) pw c).toInt ≤ M (2 ^ c - 1) := fun l hl => by
    obtain ⟨w1, w2⟩ := wOf_T (tg := groT (fL l)) hx hc hp
    by_cases hb : badT x (groT (fL l)) c
    · rw [w1 hb, no_int]
      have := hM.2.1 (2 ^ c - 1) (by omega)
      omega
    · rw [w2 hb, sumT_cg (tg l hl)]
      exact an_ub hc hM _ (2 ^ c - 1) (2 ^ c - 1) (Nat.le_refl _) (by omega)
  have up : (baF pw c 202 (fL z6) (wOf (groT (fL z6)) pw c)).toInt ≤ M (2 ^ c - 1) := by
    rcases a3 with q | ⟨l, q1, q2⟩
    · rw [q]; exact ub z6 ⟨rfl, fun j => by rw [z6_D]; omega⟩
    · rw [q2]; exact ub l (a4 l q1)
  obtain ⟨e, i1, i2, i3, i4⟩ := an_lb hc hM (2 ^ c - 1) (2 ^ c - 1) 0 (Nat.le_refl _) (by omega)
  have hgr : ∀ j, j < 6 → (if j < c then e j else 0) = 0 ∨ ∃ i, i < j ∧ (if i < c then e i else 0) + 1 = (if j < c then e j else 0) := fun j hj => by
    by_cases cj : j < c
    · rw [if_pos cj]
      rcases Nat.eq_zero_or_pos (e j) with q | q
      · exact Or.inl q
      · obtain ⟨i, b1, b2, b3⟩ := i2 j hj (hfull j cj) q
        exact Or.inr ⟨i, b1, by rw [if_pos (by omega)]; exact b3⟩
    · rw [if_neg cj]; exact Or.inl rfl
  have hmem := rg_mem (E := fun j => if j < c then e j else 0) hc (fun j _ hcj => if_neg (by omega)) hgr
  obtain ⟨L, hL⟩ : ∃ L, L = [(if 0 < c then e 0 else 0), (if 1 < c then e 1 else 0), (if 2 < c then e 2 else 0), (if 3 < c then e 3 else 0), (if 4 < c then e 4 else 0), (if 5 < c then e 5 else 0)] := ⟨_, rfl⟩
  have hLD : ∀ j, j < c → L.getD j 0 = e j := fun j hj => by
    rw [hL]
    rcases (show j = 0 ∨ j = 1 ∨ j = 2 ∨ j = 3 ∨ j = 4 ∨ j = 5 by omega) with q | q | q | q | q | q <;> subst q <;> exact if_pos hj
  have hmem2 : L = z6 ∨ L ∈ vis c 202 z6 := by rw [hL]; exact hmem
  have hLb : bL 1000 L := by
    rcases hmem2 with q | q
    · rw [q]; exact ⟨rfl, fun j => by rw [z6_D]; omega⟩
    · exact a4 L q
  have cg : ∀ m k, m < k → k < c → groT (fL L) m k = lT (2 ^ c - 1) e m k := fun m k h2 h3 => by
    rw [tg L hLb m k h2 h3, lT, lT, hLD m (by omega), hLD k h3]
  have lo : M (2 ^ c - 1) ≤ (baF pw c 202 (fL z6) (wOf (groT (fL z6)) pw c)).toInt := by
    have hv : (wOf (groT (fL L)) pw c).toInt = M (2 ^ c - 1) := by
      obtain ⟨w1, w2⟩ := wOf_T (tg := groT (fL L)) hx hc hp
      rw [w2 (fun z => i4 (badT_cg cg z)), sumT_cg cg, i3]
    rw [← hv]
    rcases hmem2 with q | q
    · rw [q]; exact a1
    · exact a2 L q
  omega

theorem lop_st {x : Int32} {f f' : Nat → Int32} : ∀ K j, j < bitC x K → lopM x f K j = lopM x f' K j
  | 0, j, h => by rw [bitC] at h; omega
  | K + 1, j, h => by
    rw [lopM, lopM]
    rw [bitC] at h
    by_cases c : hasB x (nI K) = true
    · rw [if_pos c] at h
      rw [if_pos c, if_pos c]
      simp only [upd]
      by_cases e : j = bitC x K
      · rw [if_pos e, if_pos e]
      · rw [if_neg e, if_neg e]; exact lop_st K j (by omega)
    · rw [if_neg c] at h
      rw [if_neg c, if_neg c]
      exact lop_st K j h
theorem lop_hi {n k : Nat} {f : Nat → Int32} (hn : n < 2 ^ k) (hk : k ≤ 16) : ∀ d, k + d ≤ 16 → lopM (nI n) f (k + d) = lopM (nI n) f k
  | 0, _ => rfl
  | d + 1, hd => by
    have h1 : 2 ^ k ≤ 2 ^ 16 := Nat.pow_le_pow_right (by omega) hk
    have h2 : 2 ^ k ≤ 2 ^ (k + d) := Nat.pow_le_pow_right (by omega) (by omega)
    rw [← Nat.add_assoc, lopM, if_neg (by rw [hasB_bit (by omega) (by omega), Nat.div_eq_of_lt (by omega)]; decide)]
    exact lop_hi hn hk d (by omega)
theorem lpJ_at {ww : Nat → Nat → Int32} {pw : Nat → Int32} {i : Nat} : ∀ n a b, n ≤ 6 → b < 6 → lpJ ww pw i n (a * 6 + b) = if a = i ∧ i < b ∧ b < n then ww i b else pw (a * 6 + b)
  | 0, a, b, _, hb => by rw [lpJ, if_neg (by omega)]
  | n + 1, a, b, hn, hb => by
    rw [lpJ]
    by_cases c : i < n
    · rw [if_pos c]
      simp only [upd]
      by_cases e : a * 6 + b = i * 6 + n
      · have ea : a = i := by omega
        have eb : b = n := by omega
        rw [if_pos e, if_pos ⟨ea, by omega, by omega⟩, eb]
      · rw [if_neg e, lpJ_at n a b (by omega) hb]
        by_cases d : a = i ∧ i < b ∧ b < n
        · rw [if_pos d, if_pos ⟨d.1, d.2.1, by omega⟩]
        · rw [if_neg d, if_neg (fun q => d ⟨q.1, q.2.1, by have := q.2.2; have h9 := q.1; omega⟩)]
    · rw [if_neg c, lpJ_at n a b (by omega) hb]
      by_cases d : a = i ∧ i < b ∧ b < n
      · rw [if_pos d, if_pos ⟨d.1, d.2.1, by omega⟩]
      · rw [if_neg d, if_neg (fun q => d ⟨q.1, q.2.1, by have := q.2.2; have h9 := q.2.1; omega⟩)]
theorem lpO_at {ww : Nat → Nat → Int32} {pw : Nat → Int32} {n a b : Nat} (hn : n ≤ 6) (hab : a < b) (hb : b < n) : ∀ m, a < m → lpO ww pw n m (a * 6 + b) = ww a b
  | 0, h => by omega
  | m + 1, h => by
    rw [lpO, lpJ_at n a b hn (by omega)]
    by_cases e : a = m
    · subst e
      rw [if_pos ⟨rfl, hab, hb⟩]
    · rw [if_neg (fun q => e q.1)]
      exact lpO_at hn hab hb m (by omega)
theorem wop_v {g : Nat → Nat → Int32} {i j : Nat} : (wop g i j).toInt = -1000000 ∨ (-3 ≤ (wop g i j).toInt ∧ (wop g i j).toInt ≤ 10) := by
  have h := wtN_le g i j
  unfold wop
  split
  · exact Or.inl no_int
  · rw [pk_sub_toInt (by omega) (by omega)]
    exact Or.inr (by omega)
theorem bs_sh {w : Int32} {k : Nat} (hk : k ≤ 16) (h : w >>> (nI k &&& 31) = 0) : ∃ n, n < 2 ^ k ∧ w = nI n := by
  have e : ∀ k, k ≤ 16 → nI k &&& 31 = nI k ∧ ((nI k).toBitVec.smod 32).toNat = k := by decide +kernel
  rw [(e k hk).1] at h
  have p16 : 2 ^ k ≤ 2 ^ 16 := Nat.pow_le_pow_right (by omega) hk
  have h0 := congrArg Int32.toInt h
  rw [pk_shr w (nI k) k (e k hk).2, Int.shiftRight_eq_div_pow] at h0
  have h0 : w.toInt / ((2 ^ k : Nat) : Int) = 0 := h0
  have p1 : 1 ≤ 2 ^ k := Nat.one_le_two_pow
  obtain ⟨P, hP⟩ : ∃ P, P = 2 ^ k := ⟨_, rfl⟩
  rw [← hP] at h0 p1 p16 ⊢
  have a1 := Int.emod_add_mul_ediv w.toInt P
  have a2 := Int.emod_nonneg w.toInt (show ((P : Nat) : Int) ≠ 0 by omega)
  have a3 := Int.emod_lt_of_pos w.toInt (show 0 < ((P : Nat) : Int) by omega)
  rw [h0, Int.mul_zero, Int.add_zero] at a1
  have hn0 : ¬ w < 0 := fun q => by have := Int32.lt_iff_toInt_lt.mp q; rw [show (0 : Int32).toInt = 0 from rfl] at this; omega
  obtain ⟨n, hn, rfl⟩ := nI_of hn0
  refine ⟨n, ?_, rfl⟩
  rw [nI_toInt (by omega)] at a1 a3
  omega
/-- the least table of bests, by its sums -/
def tbR (W f0 : Nat → Int32) : Nat → Nat → Int32
  | 0 => upd f0 0 (nI 0)
  | k + 1 => upd (tbR W f0 k) (k + 1) (gbI W (tbR W f0 k) (k + 1) (k + 1) (k + 1) (-1000000))
theorem bp_M {pw gw be : Nat → Int32} {x : Nat → Nat → Int} {c : Nat} (hx : xOK x c) (hc : c ≤ 6) (hp : ∀ i j, i < j → j < c → (pw (i * 6 + j)).toInt = x i j) : ∃ M, mOK x c M ∧ (bpB pw gw be c (2 ^ c - 1) (2 ^ c - 1)).toInt = M (2 ^ c - 1) := by
  have hW : ∀ q, 0 < q → q < 2 ^ c → (Int32.ofInt (sumT x (sT q) c)).toInt = sumT x (sT q) c := fun q _ _ => by
    have l1 := sumT_lb (tg := sT q) hx hc
    have l2 := sumT_ub (tg := sT q) hx hc
    rw [Int32.toInt_ofInt]
    exact zz_bmod (by omega) (by omega)
  obtain ⟨d1, M, m0, m1, m2, m3⟩ := dp_all (pw := pw) (gw := gw) (be := be) (f0 := fun _ => nI 0) (W := fun q => Int32.ofInt (sumT x (sT q) c)) (tb := tbR (fun q => Int32.ofInt (sumT x (sT q) c)) (fun _ => nI 0)) hx hc hp hW rfl (fun k => rfl)
  exact ⟨M, ⟨m0, m1, m3⟩, by rw [d1]; exact m2⟩
theorem mOK_u {x : Nat → Nat → Int} {c : Nat} {M M' : Nat → Int} (hc : c ≤ 6) (h : mOK x c M) (h' : mOK x c M') : ∀ n s, s ≤ n → s < 2 ^ c → M s = M' s := by
  have h64 : 2 ^ c ≤ 64 := show 2 ^ c ≤ 2 ^ 6 from Nat.pow_le_pow_right (by omega) hc
  have one : ∀ {M M' : Nat → Int}, mOK x c M → mOK x c M' → ∀ n, (∀ s, s ≤ n → s < 2 ^ c → M s = M' s) → n + 1 < 2 ^ c → M (n + 1) ≤ M' (n + 1) := by
    intro M M' h h' n ih hn
    obtain ⟨-, k, k1, k2, k3⟩ := h.2.2 (n + 1) (by omega) hn
    obtain ⟨q1, -⟩ := h'.2.2 (n + 1) (by omega) hn
    have q2 := q1 k k1
    obtain ⟨a1, a2⟩ := (prt_if (n + 1) k).1 k1
    have h3 : 0 < k := by
      rcases Nat.eq_zero_or_pos k with z | z
      · exact absurd (by rw [z, Nat.zero_and]) a2
      · exact z
    have h4 : k ≤ n + 1 := by rw [← a1]; exact Nat.and_le_right
    have h5 := (sub_xor (n + 1) (by omega) k (by omega) a1).2 h3
    rw [k3, ih _ (by omega) (by omega)]
    exact q2
  intro n
  induction n with
  | zero =>
    intro s hs _
    rw [show s = 0 by omega, h.1, h'.1]
  | succ n ih =>
    intro s hs hs2
    by_cases e : s = n + 1
    · subst e
      exact Int.le_antisymm (one h h' n ih hs2) (one h' h n (fun s a b => (ih s a b).symm) hs2)
    · exact ih s (by omega) hs2
/-- best is best by all groupings, whatever lay in the rows before, and it is no loss -/
theorem best_ok {g g' : Nat → Nat → Int32} {n a : Nat} {p1 p2 gw be p1' p2' gw' be' : Nat → Int32} (hn : n < 2 ^ a) (ha : a ≤ 16) (hb : pcN n ≤ 6) (e0 : g' 0 = g 0) (e1 : g' 1 = g 1) (e2 : g' 2 = g 2) (e3 : g' 3 = g 3) (e9 : g' 9 = g 9) (e10 : g' 10 = g 10) :
    bpB (lpO (wopM g' (lopM (nI n) p1' a)) p2' (bitC (nI n) a) (bitC (nI n) a)) gw' be' (bitC (nI n) a) (2 ^ (bitC (nI n) a) - 1) (2 ^ (bitC (nI n) a) - 1) = bpB (lpO (wopM g (lopM (nI n) p1 a)) p2 (bitC (nI n) a) (bitC (nI n) a)) gw be (bitC (nI n) a) (2 ^ (bitC (nI n) a) - 1) (2 ^ (bitC (nI n) a) - 1) ∧
    baF (lpO (wopM g' (lopM (nI n) p1' a)) p2' (bitC (nI n) a) (bitC (nI n) a)) (bitC (nI n) a) 202 (fun _ => nI 0) (wOf (groT (fun _ => nI 0)) (lpO (wopM g' (lopM (nI n) p1' a)) p2' (bitC (nI n) a) (bitC (nI n) a)) (bitC (nI n) a)) = bpB (lpO (wopM g (lopM (nI n) p1 a)) p2 (bitC (nI n) a) (bitC (nI n) a)) gw be (bitC (nI n) a) (2 ^ (bitC (nI n) a) - 1) (2 ^ (bitC (nI n) a) - 1) ∧
    0 ≤ (bpB (lpO (wopM g (lopM (nI n) p1 a)) p2 (bitC (nI n) a) (bitC (nI n) a)) gw be (bitC (nI n) a) (2 ^ (bitC (nI n) a) - 1) (2 ^ (bitC (nI n) a) - 1)).toInt := by
  have b1 : bitC (nI n) a = pcN n := bitC_pcN hn ha
  have hbc : bitC (nI n) a ≤ 6 := by omega
  obtain ⟨c, hc⟩ : ∃ c, c = bitC (nI n) a := ⟨_, rfl⟩
  have hc6 : c ≤ 6 := by omega
  have h1 : 1 ≤ 2 ^ c := Nat.one_le_two_pow
  have hw : ∀ i j, wop g' i j = wop g i j := fun i j => by unfold wop; rw [wtN_cg e0 e1 e2 e3 e9, e1, e10]
  have hx : xOK (fun m k => (wop g (q_n (lopM (nI n) p1 a m)) (q_n (lopM (nI n) p1 a k))).toInt) c := fun m k h1 h2 => wop_v
  have hp : ∀ i j, i < j → j < c → (lpO (wopM g (lopM (nI n) p1 a)) p2 c c (i * 6 + j)).toInt = (wop g (q_n (lopM (nI n) p1 a i)) (q_n (lopM (nI n) p1 a j))).toInt := fun i j h1 h2 => by rw [lpO_at hc6 h1 h2 c (by omega)]; rfl
  have hp' : ∀ i j, i < j → j < c → (lpO (wopM g' (lopM (nI n) p1' a)) p2' c c (i * 6 + j)).toInt = (wop g (q_n (lopM (nI n) p1 a i)) (q_n (lopM (nI n) p1 a j))).toInt := fun i j h1 h2 => by
    rw [lpO_at hc6 h1 h2 c (by omega)]
    show (wop g' (q_n (lopM (nI n) p1' a i)) (q_n (lopM (nI n) p1' a j))).toInt = _
    rw [hw, lop_st (f := p1') (f' := p1) a i (by omega), lop_st (f := p1') (f' := p1) a j (by omega)]
  rw [← hc]
  obtain ⟨M, m1, m2⟩ := bp_M (gw := gw) (be := be) hx hc6 hp
  obtain ⟨M', n1, n2⟩ := bp_M (gw := gw') (be := be') hx hc6 hp'
  have u := mOK_u hc6 m1 n1 (2 ^ c - 1) (2 ^ c - 1) (Nat.le_refl _) (by omega)
  refine ⟨?_, ?_, ?_⟩
  · rw [zz_eq, m2, n2, u]
  · rw [zz_eq, m2, an_ok hx hc6 hp' m1]
  · rw [m2]
    exact m1.2.1 _ (by omega)
