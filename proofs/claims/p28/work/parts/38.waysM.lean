/-! greatest gaps of all ways -/
def wf (ww : Nat → Int32) (i j : Nat) : Prop := ¬ ww (i * 16 + j) = (-1000000)
def wv (ww : Nat → Int32) (i j : Nat) : Int := (ww (i * 16 + j)).toInt
theorem no_int : ((-1000000 : Int32)).toInt = -1000000 := by decide +kernel
theorem wf_v {ww : Nat → Int32} {i j : Nat} : wf ww i j ↔ ¬ wv ww i j = -1000000 := by
  unfold wf wv
  rw [zz_eq, no_int]
theorem mx_1 (x y : Int32) : x.toInt ≤ (mx x y).toInt := by
  unfold mx
  split
  · rename_i h; rw [zz_lt] at h; omega
  · exact Int.le_refl _
theorem mx_2 (x y : Int32) : y.toInt ≤ (mx x y).toInt := by
  unfold mx
  split
  · exact Int.le_refl _
  · rename_i h; rw [zz_lt] at h; omega
theorem mx_3 (x y : Int32) : (mx x y = x ∧ y.toInt ≤ x.toInt) ∨ (mx x y = y ∧ x.toInt < y.toInt) := by
  unfold mx
  split
  · rename_i h; rw [zz_lt] at h; exact Or.inr ⟨rfl, h⟩
  · rename_i h; rw [zz_lt] at h; exact Or.inl ⟨rfl, by omega⟩
theorem mn_3 (x y : Int32) : (mn x y = x ∧ x.toInt ≤ y.toInt) ∨ (mn x y = y ∧ y.toInt < x.toInt) := by
  unfold mn
  split
  · rename_i h; rw [zz_lt] at h; exact Or.inr ⟨rfl, h⟩
  · rename_i h; rw [zz_lt] at h; exact Or.inl ⟨rfl, by omega⟩
theorem viaW_e {ww : Nat → Int32} {f v : Nat} {x : Int32} (hfv : f ≠ v) (hf : f < 16) (hv : v < 16) : ∀ k, k ≤ 16 → ∀ i t, i < 16 → t < 16 → viaW ww f v x k (i * 16 + t) = if i = f ∧ t < k ∧ ¬ ww (v * 16 + t) = (-1000000) then mx (ww (f * 16 + t)) (x + ww (v * 16 + t)) else ww (i * 16 + t)
  | 0, _, i, t, _, _ => by rw [viaW, if_neg (fun z => by omega)]
  | k + 1, hk, i, t, hi, ht => by
    have ih := viaW_e (ww := ww) (x := x) hfv hf hv k (by omega)
    have e1 : viaW ww f v x k (v * 16 + k) = ww (v * 16 + k) := by rw [ih v k hv (by omega), if_neg (fun z => hfv z.1.symm)]
    have e2 : viaW ww f v x k (f * 16 + k) = ww (f * 16 + k) := by rw [ih f k hf (by omega), if_neg (fun z => by omega)]
    rw [viaW, e1]
    by_cases c : ww (v * 16 + k) = (-1000000)
    · rw [if_pos c, ih i t hi ht]
      by_cases c2 : i = f ∧ t < k ∧ ¬ ww (v * 16 + t) = (-1000000)
      · rw [if_pos c2, if_pos ⟨c2.1, by omega, c2.2.2⟩]
      · rw [if_neg c2, if_neg (fun z => c2 ⟨z.1, by
          have h1 := z.2.1
          have h2 := z.2.2
          rcases Nat.lt_or_ge t k with q | q
          · exact q
          · rw [show t = k by omega] at h2
            exact absurd c h2, z.2.2⟩)]
    · rw [if_neg c, lenW, e2]
      show (if i * 16 + t = f * 16 + k then _ else _) = _
      by_cases e : i * 16 + t = f * 16 + k
      · have ei : i = f := by omega
        have et : t = k := by omega
        subst ei
        subst et
        rw [if_pos rfl, if_pos ⟨rfl, by omega, c⟩]
      · rw [if_neg e, ih i t hi ht]
        by_cases c2 : i = f ∧ t < k ∧ ¬ ww (v * 16 + t) = (-1000000)
        · rw [if_pos c2, if_pos ⟨c2.1, by omega, c2.2.2⟩]
        · rw [if_neg c2, if_neg (fun z => c2 ⟨z.1, by
            have h1 := z.2.1
            rcases Nat.lt_or_ge t k with q | q
            · exact q
            · exact absurd (by rw [z.1, show t = k by omega]) e, z.2.2⟩)]
theorem upd_self {ww : Nat → Int32} {k : Nat} {x : Int32} (h : x = ww k) : upd ww k x = ww := by
  funext j
  simp only [upd]
  split
  · rename_i e; rw [e, h]
  · rfl
theorem viaW_v {ww : Nat → Int32} {v : Nat} (hd : wv ww v v ≤ 0) (hb : ∀ k, k < 16 → -1000000 ≤ wv ww v k ∧ wv ww v k ≤ 999) (hv : v < 16) : ∀ k, k ≤ 16 → viaW ww v v (ww (v * 16 + v)) k = ww
  | 0, _ => rfl
  | k + 1, hk => by
    have ih := viaW_v hd hb hv k (by omega)
    rw [viaW, ih]
    split
    · rfl
    · rw [lenW]
      refine upd_self ?_
      have h1 := hb k (by omega)
      have h2 := hb v hv
      have e1 : wv ww v v = (ww (v * 16 + v)).toInt := rfl
      have e2 : wv ww v k = (ww (v * 16 + k)).toInt := rfl
      rcases mx_3 (ww (v * 16 + k)) (ww (v * 16 + v) + ww (v * 16 + k)) with q | q
      · exact q.1
      · exfalso
        have h3 := q.2
        rw [zz_add (by omega) (by omega)] at h3
        omega
/-- what one mention in between makes of a way -/
def stV (ww : Nat → Int32) (v i t : Nat) : Int32 := if ww (i * 16 + v) = (-1000000) ∨ ww (v * 16 + t) = (-1000000) then ww (i * 16 + t) else mx (ww (i * 16 + t)) (ww (i * 16 + v) + ww (v * 16 + t))
def wRg (ww : Nat → Int32) : Prop := ∀ i j, i < 16 → j < 16 → -1000000 ≤ wv ww i j ∧ wv ww i j ≤ 999
theorem stV_v {ww : Nat → Int32} {v t : Nat} (hb : wRg ww) (hd : wf ww v v → wv ww v v ≤ 0) (hv : v < 16) (ht : t < 16) : stV ww v v t = ww (v * 16 + t) := by
  unfold stV
  split
  · rfl
  · rename_i h
    have hf : wf ww v v := fun z => h (Or.inl z)
    have h1 := hb v v hv hv
    have h2 := hb v t hv ht
    have h3 := hd hf
    have e1 : wv ww v v = (ww (v * 16 + v)).toInt := rfl
    have e2 : wv ww v t = (ww (v * 16 + t)).toInt := rfl
    rcases mx_3 (ww (v * 16 + t)) (ww (v * 16 + v) + ww (v * 16 + t)) with q | q
    · exact q.1
    · exfalso
      have h4 := q.2
      rw [zz_add (by omega) (by omega)] at h4
      omega
theorem viaF_e {ww : Nat → Int32} {v : Nat} (hb : wRg ww) (hd : wf ww v v → wv ww v v ≤ 0) (hv : v < 16) : ∀ k, k ≤ 16 → ∀ i t, i < 16 → t < 16 → viaF ww v k (i * 16 + t) = if i < k then stV ww v i t else ww (i * 16 + t)
  | 0, _, i, t, _, _ => by rw [viaF, if_neg (by omega)]
  | k + 1, hk, i, t, hi, ht => by
    have ih := viaF_e hb hd hv k (by omega)
    have ekv : viaF ww v k (k * 16 + v) = ww (k * 16 + v) := by rw [ih k v (by omega) hv, if_neg (by omega)]
    have ev : ∀ t, t < 16 → viaF ww v k (v * 16 + t) = ww (v * 16 + t) := fun t ht => by
      rw [ih v t hv ht]
      split
      · exact stV_v hb hd hv ht
      · rfl
    have ek : ∀ t, t < 16 → viaF ww v k (k * 16 + t) = ww (k * 16 + t) := fun t ht => by rw [ih k t (by omega) ht, if_neg (by omega)]
    rw [viaF, viaA, ekv]
    by_cases c : ww (k * 16 + v) = (-1000000)
    · rw [if_pos c, ih i t hi ht]
      by_cases c1 : i < k
      · rw [if_pos c1, if_pos (by omega)]
      · rw [if_neg c1]
        by_cases c2 : i = k
        · subst c2
          rw [if_pos (by omega), stV, if_pos (Or.inl c)]
        · rw [if_neg (by omega)]
    · rw [if_neg c]
      by_cases e : k = v
      · subst e
        have h9 := hb k k hv hv
        have hw : viaW (viaF ww k k) k k (ww (k * 16 + k)) 16 = viaF ww k k := by
          have := viaW_v (ww := viaF ww k k) (v := k) (by show (viaF ww k k (k * 16 + k)).toInt ≤ 0; rw [ekv]; exact hd c) (fun j hj => by show -1000000 ≤ (viaF ww k k (k * 16 + j)).toInt ∧ (viaF ww k k (k * 16 + j)).toInt ≤ 999; rw [ek j hj]; exact hb k j hv hj) hv 16 (Nat.le_refl 16)
          rwa [ekv] at this
        rw [hw, ih i t hi ht]
        by_cases c1 : i < k
        · rw [if_pos c1, if_pos (by omega)]
        · rw [if_neg c1]
          by_cases c2 : i = k
          · subst c2
            rw [if_pos (by omega), stV_v hb hd hv ht]
          · rw [if_neg (by omega)]
      · rw [viaW_e e (by omega) hv 16 (Nat.le_refl 16) i t hi ht, ev t ht, ek t ht]
        by_cases c2 : i = k
        · subst c2
          rw [if_pos (show i < i + 1 by omega), stV]
          by_cases c3 : ww (v * 16 + t) = (-1000000)
          · rw [if_neg (fun z => z.2.2 c3), if_pos (Or.inr c3), ek t ht]
          · rw [if_pos ⟨rfl, ht, c3⟩, if_neg (fun z => z.elim c c3)]
        · rw [if_neg (fun z => c2 z.1), ih i t hi ht]
          by_cases c1 : i < k
          · rw [if_pos c1, if_pos (by omega)]
          · rw [if_neg c1, if_neg (by omega)]
/-! what stays so of the ways -/
def wIn (A B W : Nat → Int32) (t v : Nat) (ww : Nat → Int32) : Prop :=
  (∀ X, yP (zQ A) (zQ B) (zI W) t X → ∀ i j, i < 16 → j < 16 → wf ww i j → wv ww i j ≤ X j - X i) ∧
  (∀ i j, i < 16 → j < 16 → wf ww i j → ∃ S : Nat → Bool, (∀ u, S u = true → u < v ∧ wf ww i u ∧ wf ww u j) ∧ -50 * ((zC S 16 : Nat) + 1 : Int) ≤ wv ww i j) ∧
  (∀ i j k, i < 16 → j < 16 → k < 16 → k < v → wf ww i k → wf ww k j → wf ww i j ∧ wv ww i k + wv ww k j ≤ wv ww i j) ∧
  (∀ e, e < t → wf ww (zQ A e) (zQ B e) ∧ zI W e ≤ wv ww (zQ A e) (zQ B e))
theorem zC_un {S T : Nat → Bool} : ∀ n, (∀ u, u < n → S u = true → T u = false) → zC (fun u => S u || T u) n = zC S n + zC T n
  | 0, _ => rfl
  | n + 1, h => by
    have ih := zC_un n (fun u hu => h u (by omega))
    have h1 := h n (by omega)
    rw [zC, zC, zC, ih]
    cases hS : S n with
    | false => simp [Nat.add_assoc]
    | true => rw [h1 hS]; simp; omega
theorem zC_1 {v : Nat} : ∀ n, v < n → zC (fun u => decide (u = v)) n = 1
  | 0, h => by omega
  | n + 1, h => by
    rw [zC]
    by_cases e : n = v
    · subst e
      have : ∀ m, m ≤ n → zC (fun u => decide (u = n)) m = 0 := by
        intro m
        induction m with
        | zero => exact fun _ => rfl
        | succ m ih =>
          intro hm
          rw [zC, ih (by omega), if_neg (by rw [decide_eq_true_iff]; omega)]
      rw [this n (Nat.le_refl n), if_pos (decide_eq_true rfl)]
    · rw [zC_1 n (by omega), if_neg (by rw [decide_eq_true_iff]; exact e)]
section WW
variable {A B W ww : Nat → Int32} {t v : Nat} {X0 : Nat → Int}
theorem wIn_rg (hI : wIn A B W t v ww) (hX : yP (zQ A) (zQ B) (zI W) t X0) (hr : ∀ j, j < 16 → 0 ≤ X0 j ∧ X0 j ≤ 999) : (∀ i j, i < 16 → j < 16 → wf ww i j → -850 ≤ wv ww i j ∧ wv ww i j ≤ 999) ∧ wRg ww := by
  have h1 : ∀ i j, i < 16 → j < 16 → wf ww i j → -850 ≤ wv ww i j ∧ wv ww i j ≤ 999 := fun i j hi hj h => by
    have a1 := hI.1 X0 hX i j hi hj h
    obtain ⟨S, _, a2⟩ := hI.2.1 i j hi hj h
    have a3 := zC_le S 16
    have a4 := hr i hi
    have a5 := hr j hj
    omega
  refine ⟨h1, fun i j hi hj => ?_⟩
  by_cases h : wf ww i j
  · have := h1 i j hi hj h
    omega
  · have h2 : ww (i * 16 + j) = (-1000000) := Classical.not_not.mp h
    have h3 : wv ww i j = -1000000 := by unfold wv; rw [h2]; exact no_int
    omega
theorem wIn_s (hI : wIn A B W t v ww) (hv : v < 16) (hX : yP (zQ A) (zQ B) (zI W) t X0) (hr : ∀ j, j < 16 → 0 ≤ X0 j ∧ X0 j ≤ 999) (hE : yE (zQ A) (zQ B) t 16) : wIn A B W t (v + 1) (viaF ww v 16) := by
  obtain ⟨rg, hb⟩ := wIn_rg hI hX hr
  have hd : wf ww v v → wv ww v v ≤ 0 := fun h => by
    have := hI.1 X0 hX v v hv hv h
    omega
  obtain ⟨Ia, Ib, Ic, Id⟩ := hI
  have en : ∀ i j, i < 16 → j < 16 → viaF ww v 16 (i * 16 + j) = stV ww v i j := fun i j hi hj => by rw [viaF_e hb hd hv 16 (Nat.le_refl 16) i j hi hj, if_pos hi]
  have add : ∀ i j, i < 16 → j < 16 → (ww (i * 16 + v) + ww (v * 16 + j)).toInt = wv ww i v + wv ww v j := fun i j hi hj => by
    have h1 := hb i v hi hv
    have h2 := hb v j hv hj
    have e1 : wv ww i v = (ww (i * 16 + v)).toInt := rfl
    have e2 : wv ww v j = (ww (v * 16 + j)).toInt := rfl
    exact zz_add (by omega) (by omega)
  have g1 : ∀ i j, i < 16 → j < 16 → wv ww i j ≤ wv (viaF ww v 16) i j := fun i j hi hj => by
    show (ww (i * 16 + j)).toInt ≤ (viaF ww v 16 (i * 16 + j)).toInt
    rw [en i j hi hj, stV]
    split
    · exact Int.le_refl _
    · exact mx_1 _ _
  have g1f : ∀ i j, i < 16 → j < 16 → wf ww i j → wf (viaF ww v 16) i j := fun i j hi hj h => by
    have h1 := g1 i j hi hj
    have h2 := rg i j hi hj h
    rw [wf_v]
    omega
  have g2 : ∀ i j, i < 16 → j < 16 → wf ww i v → wf ww v j → wf (viaF ww v 16) i j ∧ wv ww i v + wv ww v j ≤ wv (viaF ww v 16) i j := fun i j hi hj h1 h2 => by
    have h3 : wv ww i v + wv ww v j ≤ wv (viaF ww v 16) i j := by
      show _ ≤ (viaF ww v 16 (i * 16 + j)).toInt
      rw [en i j hi hj, stV, if_neg (fun z => z.elim h1 h2), ← add i j hi hj]
      exact mx_2 _ _
    have h4 := rg i v hi hv h1
    have h5 := rg v j hv hj h2
    refine ⟨?_, h3⟩
    rw [wf_v]
    omega
  have g3 : ∀ i j, i < 16 → j < 16 → wf (viaF ww v 16) i j → (wf ww i j ∧ wv (viaF ww v 16) i j = wv ww i j) ∨ (wf ww i v ∧ wf ww v j ∧ wv (viaF ww v 16) i j = wv ww i v + wv ww v j) := fun i j hi hj h => by
    have h1 := en i j hi hj
    have h2 : ¬ viaF ww v 16 (i * 16 + j) = (-1000000) := h
    have h3 : wv (viaF ww v 16) i j = (viaF ww v 16 (i * 16 + j)).toInt := rfl
    rw [stV] at h1
    by_cases c : ww (i * 16 + v) = (-1000000) ∨ ww (v * 16 + j) = (-1000000)
    · rw [if_pos c] at h1
      rw [h1] at h2 h3
      exact Or.inl ⟨h2, h3⟩
    · rw [if_neg c] at h1
      rcases mx_3 (ww (i * 16 + j)) (ww (i * 16 + v) + ww (v * 16 + j)) with q | q
      · rw [h1, q.1] at h2 h3
        exact Or.inl ⟨h2, h3⟩
      · rw [h1, q.1, add i j hi hj] at h3
        exact Or.inr ⟨fun z => c (Or.inl z), fun z => c (Or.inr z), h3⟩
  refine ⟨fun X hX2 i j hi hj h => ?_, fun i j hi hj h => ?_, fun i j k hi hj hk hkv h1 h2 => ?_, fun e he => ?_⟩
  · rcases g3 i j hi hj h with ⟨q1, q2⟩ | ⟨q1, q2, q3⟩
    · rw [q2]; exact Ia X hX2 i j hi hj q1
    · have a1 := Ia X hX2 i v hi hv q1
      have a2 := Ia X hX2 v j hv hj q2
      omega
  · by_cases c : wf ww i j
    · obtain ⟨S, s1, s2⟩ := Ib i j hi hj c
      refine ⟨S, fun u hu => ?_, Int.le_trans s2 (g1 i j hi hj)⟩
      obtain ⟨a1, a2, a3⟩ := s1 u hu
      exact ⟨by omega, g1f i u hi (by omega) a2, g1f u j (by omega) hj a3⟩
    · rcases g3 i j hi hj h with ⟨q1, q2⟩ | ⟨q1, q2, q3⟩
      · exact absurd q1 c
      · obtain ⟨S, s1, s2⟩ := Ib i v hi hv q1
        obtain ⟨T, t1, t2⟩ := Ib v j hv hj q2
        refine ⟨fun u => (S u || T u) || decide (u = v), fun u hu => ?_, ?_⟩
        · simp only [Bool.or_eq_true, decide_eq_true_eq] at hu
          rcases hu with (hu | hu) | hu
          · obtain ⟨a1, a2, a3⟩ := s1 u hu
            exact ⟨by omega, g1f i u hi (by omega) a2, (g2 u j (by omega) hj a3 q2).1⟩
          · obtain ⟨a1, a2, a3⟩ := t1 u hu
            exact ⟨by omega, (g2 i u hi (by omega) q1 a2).1, g1f u j (by omega) hj a3⟩
          · subst hu
            exact ⟨by omega, g1f i u hi hv q1, g1f u j hv hj q2⟩
        · have d1 : zC (fun u => S u || T u) 16 = zC S 16 + zC T 16 := zC_un 16 (fun u _ hu => by
            cases hT : T u with
            | false => rfl
            | true =>
              exfalso
              obtain ⟨a1, a2, a3⟩ := s1 u hu
              obtain ⟨b1, b2, b3⟩ := t1 u hT
              exact c (Ic i j u hi hj (by omega) a1 a2 b3).1)
          have d2 : zC (fun u => (S u || T u) || decide (u = v)) 16 = zC (fun u => S u || T u) 16 + zC (fun u => decide (u = v)) 16 := zC_un 16 (fun u _ hu => by
            rw [decide_eq_false_iff_not]
            intro e
            subst e
            simp only [Bool.or_eq_true] at hu
            rcases hu with hu | hu
            · have := (s1 u hu).1; omega
            · have := (t1 u hu).1; omega)
          rw [d2, d1, zC_1 16 hv, q3]
          omega
  · have b1 : wf ww v v → wv ww v v ≤ 0 := hd
    rcases Nat.lt_or_ge k v with q | q
    · rcases g3 i k hi hk h1 with ⟨p1, p2⟩ | ⟨p1, p2, p3⟩
      · rcases g3 k j hk hj h2 with ⟨r1, r2⟩ | ⟨r1, r2, r3⟩
        · obtain ⟨a1, a2⟩ := Ic i j k hi hj hk q p1 r1
          have a3 := g1 i j hi hj
          exact ⟨g1f i j hi hj a1, by omega⟩
        · obtain ⟨a1, a2⟩ := Ic i v k hi hv hk q p1 r1
          obtain ⟨a3, a4⟩ := g2 i j hi hj a1 r2
          exact ⟨a3, by omega⟩
      · rcases g3 k j hk hj h2 with ⟨r1, r2⟩ | ⟨r1, r2, r3⟩
        · obtain ⟨a1, a2⟩ := Ic v j k hv hj hk q p2 r1
          obtain ⟨a3, a4⟩ := g2 i j hi hj p1 a1
          exact ⟨a3, by omega⟩
        · obtain ⟨a1, a2⟩ := Ic v v k hv hv hk q p2 r1
          obtain ⟨a3, a4⟩ := g2 i j hi hj p1 r2
          have a5 := b1 a1
          exact ⟨a3, by omega⟩
    · have ek : k = v := by omega
      subst ek
      have c1 : wf ww i k ∧ wv (viaF ww k 16) i k ≤ wv ww i k := by
        rcases g3 i k hi hk h1 with ⟨p1, p2⟩ | ⟨p1, p2, p3⟩
        · exact ⟨p1, by omega⟩
        · have := b1 p2
          exact ⟨p1, by omega⟩
      have c2 : wf ww k j ∧ wv (viaF ww k 16) k j ≤ wv ww k j := by
        rcases g3 k j hk hj h2 with ⟨p1, p2⟩ | ⟨p1, p2, p3⟩
        · exact ⟨p1, by omega⟩
        · have := b1 p1
          exact ⟨p2, by omega⟩
      obtain ⟨a3, a4⟩ := g2 i j hi hj c1.1 c2.1
      exact ⟨a3, by omega⟩
  · obtain ⟨a1, a2⟩ := Id e he
    have h1 := (hE e he).1
    have h2 := (hE e he).2
    exact ⟨g1f _ _ h1 h2 a1, Int.le_trans a2 (g1 _ _ h1 h2)⟩
theorem wIn_V (hI : wIn A B W t 0 ww) (hX : yP (zQ A) (zQ B) (zI W) t X0) (hr : ∀ j, j < 16 → 0 ≤ X0 j ∧ X0 j ≤ 999) (hE : yE (zQ A) (zQ B) t 16) : ∀ k, k ≤ 16 → wIn A B W t k (viaV ww k)
  | 0, _ => hI
  | k + 1, hk => by
    rw [viaV]
    exact wIn_s (wIn_V hI hX hr hE k (by omega)) (by omega) hX hr hE
end WW
section WD
variable {A B W : Nat → Int32} {t : Nat}
theorem dir_in (hw : wB W t) (hE : yE (zQ A) (zQ B) t 16) : ∀ k, k ≤ t → (∀ X, yP (zQ A) (zQ B) (zI W) t X → ∀ i j, i < 16 → j < 16 → wf (dirW A B W k) i j → wv (dirW A B W k) i j ≤ X j - X i) ∧ (∀ i j, i < 16 → j < 16 → wf (dirW A B W k) i j → -50 ≤ wv (dirW A B W k) i j) ∧ (∀ e, e < k → wf (dirW A B W k) (zQ A e) (zQ B e) ∧ zI W e ≤ wv (dirW A B W k) (zQ A e) (zQ B e))
  | 0, _ => ⟨fun _ _ i j _ _ h => absurd rfl h, fun i j _ _ h => absurd rfl h, fun e he => by omega⟩
  | k + 1, hk => by
    obtain ⟨a1, a2, a3⟩ := dir_in hw hE k (by omega)
    have hwk := hw k (by omega)
    have hA := (hE k (by omega)).1
    have hB := (hE k (by omega)).2
    have eA : zQ A k = q_n (A k) := rfl
    have eB : zQ B k = q_n (B k) := rfl
    have en : ∀ i j, j < 16 → dirW A B W (k + 1) (i * 16 + j) = if i = zQ A k ∧ j = zQ B k then mx (dirW A B W k (i * 16 + j)) (W k) else dirW A B W k (i * 16 + j) := fun i j hj => by
      rw [dirW, lenW]
      show (if i * 16 + j = q_n (A k) * 16 + q_n (B k) then _ else _) = _
      by_cases c : i = zQ A k ∧ j = zQ B k
      · rw [if_pos c, if_pos (by rw [c.1, c.2, eA, eB]), c.1, c.2, eA, eB]
      · rw [if_neg c, if_neg (fun z => c (by omega))]
    have hi0 : ∀ i j, i < 16 → j < 16 → (dirW A B W k (i * 16 + j)).toInt ≤ -1000000 ∨ -50 ≤ (dirW A B W k (i * 16 + j)).toInt := fun i j hi hj => by
      by_cases c : wf (dirW A B W k) i j
      · exact Or.inr (a2 i j hi hj c)
      · have h2 : dirW A B W k (i * 16 + j) = (-1000000) := Classical.not_not.mp c
        rw [h2, no_int]
        exact Or.inl (Int.le_refl _)
    refine ⟨fun X hX i j hi hj h => ?_, fun i j hi hj h => ?_, fun e he => ?_⟩
    · have h1 := en i j hj
      have h2 : ¬ dirW A B W (k + 1) (i * 16 + j) = (-1000000) := h
      show (dirW A B W (k + 1) (i * 16 + j)).toInt ≤ _
      by_cases c : i = zQ A k ∧ j = zQ B k
      · rw [if_pos c] at h1
        rcases mx_3 (dirW A B W k (i * 16 + j)) (W k) with q | q
        · rw [h1, q.1] at h2 ⊢
          exact a1 X hX i j hi hj h2
        · rw [h1, q.1]
          have h5 := hX k (by omega)
          have h6 : zI W k = (W k).toInt := rfl
          rw [c.1, c.2]
          omega
      · rw [if_neg c] at h1
        rw [h1] at h2 ⊢
        exact a1 X hX i j hi hj h2
    · have h1 := en i j hj
      have h2 : ¬ dirW A B W (k + 1) (i * 16 + j) = (-1000000) := h
      show -50 ≤ (dirW A B W (k + 1) (i * 16 + j)).toInt
      by_cases c : i = zQ A k ∧ j = zQ B k
      · rw [if_pos c] at h1
        rw [h1]
        have := mx_2 (dirW A B W k (i * 16 + j)) (W k)
        omega
      · rw [if_neg c] at h1
        rw [h1] at h2 ⊢
        exact a2 i j hi hj h2
    · have up : ∀ i j, i < 16 → j < 16 → wf (dirW A B W k) i j → wf (dirW A B W (k + 1)) i j ∧ wv (dirW A B W k) i j ≤ wv (dirW A B W (k + 1)) i j := fun i j hi hj h => by
        have h1 := en i j hj
        have h3 : (dirW A B W k (i * 16 + j)).toInt ≤ (dirW A B W (k + 1) (i * 16 + j)).toInt := by
          rw [h1]
          split
          · exact mx_1 _ _
          · exact Int.le_refl _
        have h4 : -50 ≤ (dirW A B W k (i * 16 + j)).toInt := a2 i j hi hj h
        refine ⟨?_, h3⟩
        rw [wf_v]
        have e9 : wv (dirW A B W (k + 1)) i j = (dirW A B W (k + 1) (i * 16 + j)).toInt := rfl
        omega
      rcases Nat.lt_or_ge e k with q | q
      · obtain ⟨b1, b2⟩ := a3 e q
        obtain ⟨b3, b4⟩ := up _ _ (hE e (by omega)).1 (hE e (by omega)).2 b1
        exact ⟨b3, Int.le_trans b2 b4⟩
      · have ee : e = k := by omega
        subst ee
        have h1 := en (zQ A e) (zQ B e) hB
        rw [if_pos ⟨rfl, rfl⟩] at h1
        have h3 : zI W e ≤ wv (dirW A B W (e + 1)) (zQ A e) (zQ B e) := by
          show (W e).toInt ≤ (dirW A B W (e + 1) (zQ A e * 16 + zQ B e)).toInt
          rw [h1]
          exact mx_2 _ _
        have h4 : zI W e = (W e).toInt := rfl
        refine ⟨?_, h3⟩
        rw [wf_v]
        omega
theorem all_in {X0 : Nat → Int} (hw : wB W t) (hE : yE (zQ A) (zQ B) t 16) (hX : yP (zQ A) (zQ B) (zI W) t X0) (hr : ∀ j, j < 16 → 0 ≤ X0 j ∧ X0 j ≤ 999) : wIn A B W t 16 (allW A B W t) := by
  obtain ⟨a1, a2, a3⟩ := dir_in hw hE t (Nat.le_refl t)
  have z0 : zC (fun _ => false) 16 = 0 := by decide
  exact wIn_V ⟨a1, fun i j hi hj h => ⟨fun _ => false, fun u hu => absurd hu Bool.false_ne_true, (by have := a2 i j hi hj h; rw [z0]; omega)⟩, fun i j k _ _ _ hk => by omega, a3⟩ hX hr hE 16 (Nat.le_refl 16)
end WD
section WE
variable {A B W lo hi F L ww : Nat → Int32} {t m : Nat}
theorem fst_k (hI : wIn A B W t 16 ww) (hF : lsF A B W lo t 16 F) (hlo : ∀ j, j < 16 → 0 ≤ (lo j).toInt ∧ (lo j).toInt ≤ 999) (hFr : ∀ j, j < 16 → 0 ≤ (F j).toInt ∧ (F j).toInt ≤ 999) (hm : m < 16) : ∀ k, k ≤ 16 →
    (lo m).toInt ≤ (fstW lo ww m k).toInt ∧ (fstW lo ww m k).toInt ≤ (F m).toInt ∧ (∀ i, i < k → wf ww i m → (lo i).toInt + wv ww i m ≤ (fstW lo ww m k).toInt) ∧ ((fstW lo ww m k).toInt = (lo m).toInt ∨ ∃ i, i < 16 ∧ wf ww i m ∧ (fstW lo ww m k).toInt = (lo i).toInt + wv ww i m)
  | 0, _ => ⟨Int.le_refl _, hF.2.1 m hm, fun i hi => by omega, Or.inl rfl⟩
  | k + 1, hk => by
    obtain ⟨a1, a2, a3, a4⟩ := fst_k hI hF hlo hFr hm k (by omega)
    rw [fstW]
    by_cases c : ww (k * 16 + m) = (-1000000)
    · rw [if_pos c]
      refine ⟨a1, a2, fun i hi h => ?_, a4⟩
      rcases Nat.lt_or_ge i k with q | q
      · exact a3 i q h
      · rw [show i = k by omega] at h
        exact absurd c h
    · rw [if_neg c]
      obtain ⟨rg, _⟩ := wIn_rg hI hF.1 (fun j hj => hFr j hj)
      have h1 := rg k m (by omega) hm c
      have h2 := hlo k (by omega)
      have h3 := hI.1 _ hF.1 k m (by omega) hm c
      have h4 : (lo k).toInt ≤ (F k).toInt := hF.2.1 k (by omega)
      have e1 : wv ww k m = (ww (k * 16 + m)).toInt := rfl
      have hs : (lo k + ww (k * 16 + m)).toInt = (lo k).toInt + wv ww k m := zz_add (by omega) (by omega)
      have g1 := mx_1 (fstW lo ww m k) (lo k + ww (k * 16 + m))
      have g2 := mx_2 (fstW lo ww m k) (lo k + ww (k * 16 + m))
      have e3 : zI F m = (F m).toInt := rfl
      have e4 : zI F k = (F k).toInt := rfl
      refine ⟨by omega, ?_, fun i hi h => ?_, ?_⟩
      · rcases mx_3 (fstW lo ww m k) (lo k + ww (k * 16 + m)) with q | q
        · rw [q.1]; exact a2
        · rw [q.1, hs]; omega
      · rcases Nat.lt_or_ge i k with q | q
        · have := a3 i q h
          omega
        · rw [show i = k by omega]
          omega
      · rcases mx_3 (fstW lo ww m k) (lo k + ww (k * 16 + m)) with q | q
        · rw [q.1]; exact a4
        · rw [q.1, hs]
          exact Or.inr ⟨k, by omega, c, rfl⟩
theorem fst_ok (hI : wIn A B W t 16 ww) (hE : yE (zQ A) (zQ B) t 16) (hF : lsF A B W lo t 16 F) (hlo : ∀ j, j < 16 → 0 ≤ (lo j).toInt ∧ (lo j).toInt ≤ 999) (hFr : ∀ j, j < 16 → 0 ≤ (F j).toInt ∧ (F j).toInt ≤ 999) (hm : m < 16) : fstW lo ww m 16 = F m := by
  have hG := hF.2.2 (fun j => (fstW lo ww j 16).toInt) (fun e he => ?_) (fun j hj => (fst_k hI hF hlo hFr hj 16 (Nat.le_refl 16)).1) m hm
  · have h2 := (fst_k hI hF hlo hFr hm 16 (Nat.le_refl 16)).2.1
    have e1 : zI F m = (F m).toInt := rfl
    rw [zz_eq]
    simp only at hG
    omega
  · obtain ⟨h1, h2⟩ := hE e he
    obtain ⟨d1, d2⟩ := hI.2.2.2 e he
    obtain ⟨a1, a2, a3, a4⟩ := fst_k hI hF hlo hFr h1 16 (Nat.le_refl 16)
    obtain ⟨b1, b2, b3, b4⟩ := fst_k hI hF hlo hFr h2 16 (Nat.le_refl 16)
    show (fstW lo ww (zQ A e) 16).toInt + zI W e ≤ (fstW lo ww (zQ B e) 16).toInt
    rcases a4 with q | ⟨i, hi, q1, q2⟩
    · have := b3 (zQ A e) h1 d1
      omega
    · obtain ⟨c1, c2⟩ := hI.2.2.1 i (zQ B e) (zQ A e) hi h2 h1 h1 q1 d1
      have := b3 i hi c1
      omega
theorem lst_k (hI : wIn A B W t 16 ww) (hL : lsL A B W hi t 16 L) (hhi : ∀ j, j < 16 → 0 ≤ (hi j).toInt ∧ (hi j).toInt ≤ 999) (hLr : ∀ j, j < 16 → 0 ≤ (L j).toInt ∧ (L j).toInt ≤ 999) (hm : m < 16) : ∀ k, k ≤ 16 →
    (lstW hi ww m k).toInt ≤ (hi m).toInt ∧ (L m).toInt ≤ (lstW hi ww m k).toInt ∧ (∀ i, i < k → wf ww m i → (lstW hi ww m k).toInt ≤ (hi i).toInt - wv ww m i) ∧ ((lstW hi ww m k).toInt = (hi m).toInt ∨ ∃ i, i < 16 ∧ wf ww m i ∧ (lstW hi ww m k).toInt = (hi i).toInt - wv ww m i)
  | 0, _ => ⟨Int.le_refl _, by have h9 : -(hi m).toInt ≤ -(L m).toInt := hL.2.1 m hm; show (L m).toInt ≤ (hi m).toInt; omega, fun i hi => by omega, Or.inl rfl⟩
  | k + 1, hk => by
    obtain ⟨a1, a2, a3, a4⟩ := lst_k hI hL hhi hLr hm k (by omega)
    rw [lstW]
    by_cases c : ww (m * 16 + k) = (-1000000)
    · rw [if_pos c]
      refine ⟨a1, a2, fun i hi h => ?_, a4⟩
      rcases Nat.lt_or_ge i k with q | q
      · exact a3 i q h
      · rw [show i = k by omega] at h
        exact absurd c h
    · rw [if_neg c]
      have hX := yP_neg hL.1
      have hXr : ∀ j, j < 16 → 0 ≤ - zN L j ∧ - zN L j ≤ 999 := fun j hj => by
        have := hLr j hj
        have e9 : zN L j = -(L j).toInt := rfl
        omega
      obtain ⟨rg, _⟩ := wIn_rg hI hX hXr
      have h1 := rg m k hm (by omega) c
      have h2 := hhi k (by omega)
      have h3 := hI.1 _ hX m k hm (by omega) c
      have h4 : -(hi k).toInt ≤ -(L k).toInt := hL.2.1 k (by omega)
      have e1 : wv ww m k = (ww (m * 16 + k)).toInt := rfl
      have hs : (hi k - ww (m * 16 + k)).toInt = (hi k).toInt - wv ww m k := zz_sub (by omega) (by omega)
      have e3 : zN L m = -(L m).toInt := rfl
      have e4 : zN L k = -(L k).toInt := rfl
      have mi := mn_3 (lstW hi ww m k) (hi k - ww (m * 16 + k))
      have g1 : (mn (lstW hi ww m k) (hi k - ww (m * 16 + k))).toInt ≤ (lstW hi ww m k).toInt ∧ (mn (lstW hi ww m k) (hi k - ww (m * 16 + k))).toInt ≤ (hi k).toInt - wv ww m k := by
        rcases mi with q | q
        · rw [q.1, ← hs]; exact ⟨Int.le_refl _, q.2⟩
        · rw [q.1, ← hs]; exact ⟨Int.le_of_lt q.2, Int.le_refl _⟩
      refine ⟨by omega, ?_, fun i hi h => ?_, ?_⟩
      · rcases mi with q | q
        · rw [q.1]; exact a2
        · rw [q.1, hs]; omega
      · rcases Nat.lt_or_ge i k with q | q
        · have := a3 i q h
          omega
        · rw [show i = k by omega]
          omega
      · rcases mi with q | q
        · rw [q.1]; exact a4
        · rw [q.1, hs]
          exact Or.inr ⟨k, by omega, c, rfl⟩
theorem lst_ok (hI : wIn A B W t 16 ww) (hE : yE (zQ A) (zQ B) t 16) (hL : lsL A B W hi t 16 L) (hhi : ∀ j, j < 16 → 0 ≤ (hi j).toInt ∧ (hi j).toInt ≤ 999) (hLr : ∀ j, j < 16 → 0 ≤ (L j).toInt ∧ (L j).toInt ≤ 999) (hm : m < 16) : lstW hi ww m 16 = L m := by
  have hG := hL.2.2 (fun j => -(lstW hi ww j 16).toInt) (fun e he => ?_) (fun j hj => ?_) m hm
  · have h2 := (lst_k hI hL hhi hLr hm 16 (Nat.le_refl 16)).2.1
    have e1 : zN L m = -(L m).toInt := rfl
    rw [zz_eq]
    simp only at hG
    omega
  · obtain ⟨h1, h2⟩ := hE e he
    obtain ⟨d1, d2⟩ := hI.2.2.2 e he
    obtain ⟨a1, a2, a3, a4⟩ := lst_k hI hL hhi hLr h1 16 (Nat.le_refl 16)
    obtain ⟨b1, b2, b3, b4⟩ := lst_k hI hL hhi hLr h2 16 (Nat.le_refl 16)
    show -(lstW hi ww (zQ B e) 16).toInt + zI W e ≤ -(lstW hi ww (zQ A e) 16).toInt
    rcases b4 with q | ⟨i, hi, q1, q2⟩
    · have := a3 (zQ B e) h2 d1
      omega
    · obtain ⟨c1, c2⟩ := hI.2.2.1 (zQ A e) i (zQ B e) h1 hi h2 h2 d1 q1
      have := a3 i hi c1
      omega
  · have := (lst_k hI hL hhi hLr hj 16 (Nat.le_refl 16)).1
    show -(hi j).toInt ≤ -(lstW hi ww j 16).toInt
    omega
end WE
