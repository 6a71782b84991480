/-! numbers, under names that the walks use -/
theorem nI_lt1 {a b : Nat} (ha : a < 2147483648) (hb : b < 2147483648) (h : nI a < nI b) : a < b := (nI_ltI ha hb).1 h
theorem nI_lt0 {a b : Nat} (ha : a < 2147483648) (hb : b < 2147483648) (h : ¬ nI a < nI b) : b ≤ a := Nat.not_lt.mp fun q => h ((nI_ltI ha hb).2 q)
theorem nI_le1 {a b : Nat} (ha : a < 2147483648) (hb : b < 2147483648) (h : nI a ≤ nI b) : a ≤ b := (nI_leI ha hb).1 h
theorem nI_le0 {a b : Nat} (ha : a < 2147483648) (hb : b < 2147483648) (h : ¬ nI a ≤ nI b) : b < a := Nat.not_le.mp fun q => h ((nI_leI ha hb).2 q)
theorem nI_eq1 {a b : Nat} (ha : a < 2147483648) (hb : b < 2147483648) (h : nI a = nI b) : a = b := (nI_eq ha hb).1 h
theorem nI_eq0 {a b : Nat} (ha : a < 2147483648) (hb : b < 2147483648) (h : ¬ nI a = nI b) : a ≠ b := fun q => h ((nI_eq ha hb).2 q)
theorem q_inc1 (k : Nat) : nI k + Int32.ofInt 1 = nI (k + 1) := nI_1 k
theorem q_inc5 (k : Nat) : nI k + Int32.ofInt 5 = nI (k + 5) := nI_add k 5
theorem q_dec (k : Nat) : nI (k + 1) + Int32.ofInt (-1) = nI k := pk_m1 k
theorem q_dec1 {k : Nat} (h : 0 < k) : nI k + Int32.ofInt (-1) = nI (k - 1) := by
  obtain ⟨j, rfl⟩ : ∃ j, k = j + 1 := ⟨k - 1, by omega⟩
  exact q_dec j
/-! rows: a row object with its array -/
abbrev rowW (cA : ClassId) (a b n : Nat) (f : Nat → Int32) : va_W := [(a, .inr (3, [.ref b])), (b, .inl (cA, n, .inl f))]
/-- an int as a number -/
def q_n (x : Int32) : Nat := x.toNatClampNeg
/-- it is a number below n -/
def q_r (x : Int32) (n : Nat) : Prop := ∃ j : Nat, j < n ∧ x = nI j
theorem q_n_nI {k : Nat} (h : k < 2147483648) : q_n (nI k) = k := nI_clamp h
theorem q_r.lt {x : Int32} {n : Nat} (h : q_r x n) (hn : n ≤ 2147483648) : q_n x < n := by
  obtain ⟨j, h1, rfl⟩ := h
  rw [q_n_nI (by omega)]; exact h1
theorem q_r.eq {x : Int32} {n : Nat} (h : q_r x n) (hn : n ≤ 2147483648) : x = nI (q_n x) := by
  obtain ⟨j, h1, rfl⟩ := h
  rw [q_n_nI (by omega)]
theorem q_r.of {x : Int32} {n : Nat} (h0 : ¬ x < 0) (h1 : x < nI n) (hn : n < 2147483648) : q_r x n := by
  obtain ⟨j, hj, rfl⟩ := nI_of h0
  exact ⟨j, (nI_ltI hj hn).1 h1, rfl⟩
theorem q_r_nI {k n : Nat} (h : k < n) : q_r (nI k) n := ⟨k, h, rfl⟩
def rAt (n : Nat) (f : Nat → Int32) (x : Int32) : Int32 := if ¬ x < 0 ∧ x < nI n then f (q_n x) else 0
def rPut (n : Nat) (f : Nat → Int32) (x v : Int32) : Nat → Int32 := if ¬ x < 0 ∧ x < nI n then upd f (q_n x) v else f
theorem q_r.iff {x : Int32} {n : Nat} (hn : n < 2147483648) : (¬ x < 0 ∧ x < nI n) ↔ q_r x n := by
  refine ⟨fun h => q_r.of h.1 h.2 hn, fun h => ?_⟩
  obtain ⟨j, hj, rfl⟩ := h
  exact ⟨nI_pos (by omega), nI_lt hj hn⟩
theorem rAt_r {n : Nat} {f : Nat → Int32} {x : Int32} (h : q_r x n) (hn : n < 2147483648) : rAt n f x = f (q_n x) := if_pos ((q_r.iff hn).2 h)
theorem rPut_r {n : Nat} {f : Nat → Int32} {x v : Int32} (h : q_r x n) (hn : n < 2147483648) : rPut n f x v = upd f (q_n x) v := if_pos ((q_r.iff hn).2 h)
theorem rAt_nI {n k : Nat} {f : Nat → Int32} (h : k < n) (hn : n < 2147483648) : rAt n f (nI k) = f k := by rw [rAt_r (q_r_nI h) hn, q_n_nI (by omega)]
theorem rPut_nI {n k : Nat} {f : Nat → Int32} {v : Int32} (h : k < n) (hn : n < 2147483648) : rPut n f (nI k) v = upd f k v := by rw [rPut_r (q_r_nI h) hn, q_n_nI (by omega)]
/-- the first k places hold v -/
def fillTo (f : Nat → Int32) (v : Int32) (k : Nat) : Nat → Int32 := fun j => if j < k then v else f j
theorem fillTo_0 {f : Nat → Int32} {v : Int32} : fillTo f v 0 = f := by funext j; simp [fillTo]
theorem fillTo_s {f : Nat → Int32} {v : Int32} {k : Nat} : upd (fillTo f v k) k v = fillTo f v (k + 1) := by
  funext j
  simp only [upd, fillTo]
  by_cases h : j = k
  · simp [h]
  · by_cases h2 : j < k
    · simp [h, h2, Nat.lt_succ_of_lt h2]
    · simp [h, h2, show ¬ j < k + 1 by omega]
/-- the first k places are those of r -/
def copyTo (f r : Nat → Int32) (k : Nat) : Nat → Int32 := fun j => if j < k then r j else f j
theorem copyTo_0 {f r : Nat → Int32} : copyTo f r 0 = f := by funext j; simp [copyTo]
theorem copyTo_s {f r : Nat → Int32} {k : Nat} : upd (copyTo f r k) k (r k) = copyTo f r (k + 1) := by
  funext j
  simp only [upd, copyTo]
  by_cases h : j = k
  · simp [h]
  · by_cases h2 : j < k
    · simp [h, h2, Nat.lt_succ_of_lt h2]
    · simp [h, h2, show ¬ j < k + 1 by omega]
theorem q_lt_of {x : Int32} {n : Nat} (h : ¬ nI n ≤ x) : x < nI n := by
  rw [Int32.le_iff_toInt_le] at h
  rw [Int32.lt_iff_toInt_lt]
  omega
theorem q_nlt_of {x : Int32} {n : Nat} (h : nI n ≤ x) : ¬ x < nI n := by
  rw [Int32.le_iff_toInt_le] at h
  rw [Int32.lt_iff_toInt_lt]
  omega
theorem rAt_n0 {n : Nat} {f : Nat → Int32} {x : Int32} (h : x < 0) : nI 0 = rAt n f x := by rw [rAt, if_neg (fun z => z.1 h)]; rfl
theorem rAt_n1 {n : Nat} {f : Nat → Int32} {x : Int32} (h : nI n ≤ x) : nI 0 = rAt n f x := by rw [rAt, if_neg (fun z => q_nlt_of h z.2)]; rfl
theorem rAt_in {n : Nat} {f : Nat → Int32} {x : Int32} (h0 : ¬ x < 0) (h1 : ¬ nI n ≤ x) : f (q_n x) = rAt n f x := by rw [rAt, if_pos ⟨h0, q_lt_of h1⟩]
theorem rPut_n0 {n : Nat} {f : Nat → Int32} {x v : Int32} (h : x < 0) : f = rPut n f x v := by rw [rPut, if_neg (fun z => z.1 h)]
theorem rPut_n1 {n : Nat} {f : Nat → Int32} {x v : Int32} (h : nI n ≤ x) : f = rPut n f x v := by rw [rPut, if_neg (fun z => q_nlt_of h z.2)]
theorem rPut_in {n : Nat} {f : Nat → Int32} {x v : Int32} (h0 : ¬ x < 0) (h1 : ¬ nI n ≤ x) : upd f (q_n x) v = rPut n f x v := by rw [rPut, if_pos ⟨h0, q_lt_of h1⟩]
theorem q_in0 {x : Int32} {n : Nat} (h0 : ¬ x < 0) (h1 : ¬ nI n ≤ x) (hn : n ≤ 1000) : x = nI (q_n x) := (q_r.of h0 (q_lt_of h1) (by omega)).eq (by omega)
theorem q_in1 {x : Int32} {n : Nat} (h0 : ¬ x < 0) (h1 : ¬ nI n ≤ x) (hn : n ≤ 1000) : q_n x < n := (q_r.of h0 (q_lt_of h1) (by omega)).lt (by omega)
theorem q_arrV {cI : ClassId} {N : Nat} {f f' : Nat → Value} (h : ∀ j, j < N → f j = f' j) : arrV cI N f = arrV cI N f' := by
  have e : (fun j : Fin N => f j.val) = (fun j : Fin N => f' j.val) := funext fun j => h j.val j.isLt
  unfold arrV
  rw [e]
theorem cell_ext {cA : ClassId} {n : Nat} {f f' : Nat → Int32} (h : ∀ j, j < n → f j = f' j) : vp_cell cA (n, .inl f) = vp_cell cA (n, .inl f') := by
  rw [vp_cell_i, vp_cell_i]
  exact q_arrV (fun j hj => by rw [h j hj])
theorem fill_ext {D : va_G} {cA : ClassId} {a b n k : Nat} {f : Nat → Int32} {v : Int32} {H : Heap} (hP : va_P D vwCl (rowW cA a b n (fillTo f v k)) H) (hk : n ≤ k) : va_P D vwCl (rowW cA a b n (fun _ => v)) H := by
  intro i q hi
  match i, hi with
  | 0, hi => exact hP 0 q hi
  | 1, hi =>
    cases hi
    have h1 : H[b]? = some (vp_cell cA (n, .inl (fillTo f v k))) := hP 1 _ rfl
    show H[b]? = some (vp_cell cA (n, .inl (fun _ => v)))
    rw [h1, cell_ext (f := fillTo f v k) (f' := fun _ => v) (fun j hj => by simp [fillTo, show j < k by omega])]
  | i + 2, hi => simp at hi
abbrev row2W (cA : ClassId) (a b a2 b2 n : Nat) (f r : Nat → Int32) : va_W := [(a, .inr (3, [.ref b])), (b, .inl (cA, n, .inl f)), (a2, .inr (3, [.ref b2])), (b2, .inl (cA, n, .inl r))]
theorem copy_ext {D : va_G} {cA : ClassId} {a b a2 b2 n k : Nat} {f r : Nat → Int32} {H : Heap} (hP : va_P D vwCl (row2W cA a b a2 b2 n (copyTo f r k) r) H) (hk : n ≤ k) : va_P D vwCl (row2W cA a b a2 b2 n r r) H := by
  intro i q hi
  match i, hi with
  | 0, hi => exact hP 0 q hi
  | 1, hi =>
    cases hi
    have h1 : H[b]? = some (vp_cell cA (n, .inl (copyTo f r k))) := hP 1 _ rfl
    show H[b]? = some (vp_cell cA (n, .inl r))
    rw [h1, cell_ext (f := copyTo f r k) (f' := r) (fun j hj => by simp [copyTo, show j < k by omega])]
  | 2, hi => exact hP 2 q hi
  | 3, hi => exact hP 3 q hi
  | i + 4, hi => simp at hi
abbrev rm_X3_at : Room := { frames := 0, cells := 0, slots := 0, locals := 0 }
set_option maxRecDepth 100000 in
set_option maxHeartbeats 4000000 in
theorem c_X3_at (l : Launch) (D : va_G) (cA : ClassId) (a b n : Nat) (f : Nat → Int32) (i : Int32) (hn : n ≤ 1000) : q_CI l yX3_at [Cond.code yX3_at cX3_at 2 (some .int)] rm_X3_at D cA [.ref a, .int i] (rowW cA a b n f) (rAt n f i) (rowW cA a b n f) := by
  refine q_startI RX3 (by decide +kernel) rfl (Nat.le_of_ble_eq_true rfl) ?_
  intro p e s m below meth c A args H locs ls hx hb hr hml hown hT hlk hP hK hD hA hS hl
  have hl : lv_has ls 2 [(0, .ref a), (1, .int i)] := hl
  refine lv_iload_n hx hb dX3_at_0 rfl (lv_at hl 1 rfl) ?_
  refine lv_if_lt (tgt := 22) hx hb dX3_at_1 (by decide) (fun c_1 => ?_) (fun c_1 => ?_)
  · refine lv_iconst (v := nI 0) hx hb dX3_at_22 (by decide +kernel) ?_
    exact q_iret hx hb hr hlk (by first | exact rAt_n0 c_1 | exact rAt_n1 c_10 | exact rAt_in c_1 c_10) hP hS dX3_at_23
  · refine lv_iload_n hx hb dX3_at_4 rfl (lv_at hl 1 rfl) ?_
    refine lv_aload_n hx hb dX3_at_5 rfl (lv_at hl 0 rfl) ?_
    refine q_get hx hb hT hown hK hP kw_X3 0 rfl rfl 0 (by decide) kf_X3_13 rfl (v := .ref b) rfl dX3_at_6 ?_
    refine va_alen hx hb hK hP 1 0 rfl rfl (v := nI n) rfl dX3_at_9 ?_
    refine lv_icmp_ge (tgt := 22) hx hb dX3_at_10 (by decide) (fun c_10 => ?_) (fun c_10 => ?_)
    · refine lv_iconst (v := nI 0) hx hb dX3_at_22 (by decide +kernel) ?_
      exact q_iret hx hb hr hlk (by first | exact rAt_n0 c_1 | exact rAt_n1 c_10 | exact rAt_in c_1 c_10) hP hS dX3_at_23
    · refine lv_aload_n hx hb dX3_at_13 rfl (lv_at hl 0 rfl) ?_
      refine q_get hx hb hT hown hK hP kw_X3 0 rfl rfl 0 (by decide) kf_X3_13 rfl (v := .ref b) rfl dX3_at_14 ?_
      refine lv_iload_n hx hb dX3_at_17 rfl (lv_at hl 1 rfl) ?_
      refine q_iald (f := f) hx hb hK hP 1 0 rfl rfl (q_n i) (q_in0 c_1 c_10 hn) (q_in1 c_1 c_10 hn) (by omega) dX3_at_18 ?_
      refine lv_goto (tgt := 23) hx hb dX3_at_19 (by decide) ?_
      exact q_iret hx hb hr hlk (by first | exact rAt_n0 c_1 | exact rAt_n1 c_10 | exact rAt_in c_1 c_10) hP hS dX3_at_23
abbrev rm_X3_atN : Room := { frames := 0, cells := 0, slots := 0, locals := 0 }
set_option maxRecDepth 100000 in
set_option maxHeartbeats 4000000 in
theorem c_X3_atN (l : Launch) (D : va_G) (cA : ClassId) (a b n : Nat) (f : Nat → Int32) (k : Nat) (hk : k < n) (hn : n ≤ 1000) : q_CI l yX3_at [Cond.code yX3_at cX3_at 2 (some .int)] rm_X3_atN D cA [.ref a, .int (nI k)] (rowW cA a b n f) (f k) (rowW cA a b n f) := by
  refine q_startI RX3 (by decide +kernel) rfl (Nat.le_of_ble_eq_true rfl) ?_
  intro p e s m below meth c A args H locs ls hx hb hr hml hown hT hlk hP hK hD hA hS hl
  have hl : lv_has ls 2 [(0, .ref a), (1, .int (nI k))] := hl
  refine lv_iload_n hx hb dX3_at_0 rfl (lv_at hl 1 rfl) ?_
  refine lv_if_lt (tgt := 22) hx hb dX3_at_1 (by decide) (fun c_1 => ?_) (fun c_1 => ?_)
  · exact absurd c_1 (nI_pos (by omega))
  · refine lv_iload_n hx hb dX3_at_4 rfl (lv_at hl 1 rfl) ?_
    refine lv_aload_n hx hb dX3_at_5 rfl (lv_at hl 0 rfl) ?_
    refine q_get hx hb hT hown hK hP kw_X3 0 rfl rfl 0 (by decide) kf_X3_13 rfl (v := .ref b) rfl dX3_at_6 ?_
    refine va_alen hx hb hK hP 1 0 rfl rfl (v := nI n) rfl dX3_at_9 ?_
    refine lv_icmp_ge (tgt := 22) hx hb dX3_at_10 (by decide) (fun c_10 => ?_) (fun c_10 => ?_)
    · have c_10 := nI_le1 (a := n) (b := k) (by omega) (by omega) c_10
      exfalso; omega
    · have c_10 := nI_le0 (a := n) (b := k) (by omega) (by omega) c_10
      refine lv_aload_n hx hb dX3_at_13 rfl (lv_at hl 0 rfl) ?_
      refine q_get hx hb hT hown hK hP kw_X3 0 rfl rfl 0 (by decide) kf_X3_13 rfl (v := .ref b) rfl dX3_at_14 ?_
      refine lv_iload_n hx hb dX3_at_17 rfl (lv_at hl 1 rfl) ?_
      refine q_iald (f := f) hx hb hK hP 1 0 rfl rfl (k) rfl (by omega) (by omega) dX3_at_18 ?_
      refine lv_goto (tgt := 23) hx hb dX3_at_19 (by decide) ?_
      exact q_iret hx hb hr hlk (by rfl) hP hS dX3_at_23
abbrev rm_X3_put : Room := { frames := 0, cells := 0, slots := 0, locals := 0 }
set_option maxRecDepth 100000 in
set_option maxHeartbeats 4000000 in
theorem c_X3_put (l : Launch) (D : va_G) (cA : ClassId) (a b n : Nat) (f : Nat → Int32) (i v : Int32) (hn : n ≤ 1000) : q_CV l yX3_put [Cond.code yX3_put cX3_put 3 none] rm_X3_put D cA [.ref a, .int i, .int v] (rowW cA a b n f) (rowW cA a b n (rPut n f i v)) := by
  refine q_startV RX3 (by decide +kernel) rfl (Nat.le_of_ble_eq_true rfl) ?_
  intro p e s m below meth c A args H locs ls hx hb hr hml hown hT hlk hP hK hD hA hS hl
  have hl : lv_has ls 3 [(0, .ref a), (1, .int i), (2, .int v)] := hl
  refine lv_iload_n hx hb dX3_put_0 rfl (lv_at hl 1 rfl) ?_
  refine lv_if_lt (tgt := 20) hx hb dX3_put_1 (by decide) (fun c_1 => ?_) (fun c_1 => ?_)
  · exact q_vret hx hb hr hlk (va_cast' hP (by first | rw [← rPut_n0 c_1] | rw [← rPut_n1 c_10] | rw [← rPut_in c_1 c_10])) hS dX3_put_20
  · refine lv_iload_n hx hb dX3_put_4 rfl (lv_at hl 1 rfl) ?_
    refine lv_aload_n hx hb dX3_put_5 rfl (lv_at hl 0 rfl) ?_
    refine q_get hx hb hT hown hK hP kw_X3 0 rfl rfl 0 (by decide) kf_X3_13 rfl (v := .ref b) rfl dX3_put_6 ?_
    refine va_alen hx hb hK hP 1 0 rfl rfl (v := nI n) rfl dX3_put_9 ?_
    refine lv_icmp_ge (tgt := 20) hx hb dX3_put_10 (by decide) (fun c_10 => ?_) (fun c_10 => ?_)
    · exact q_vret hx hb hr hlk (va_cast' hP (by first | rw [← rPut_n0 c_1] | rw [← rPut_n1 c_10] | rw [← rPut_in c_1 c_10])) hS dX3_put_20
    · refine lv_aload_n hx hb dX3_put_13 rfl (lv_at hl 0 rfl) ?_
      refine q_get hx hb hT hown hK hP kw_X3 0 rfl rfl 0 (by decide) kf_X3_13 rfl (v := .ref b) rfl dX3_put_14 ?_
      refine lv_iload_n hx hb dX3_put_17 rfl (lv_at hl 1 rfl) ?_
      refine lv_iload_n hx hb dX3_put_18 rfl (lv_at hl 2 rfl) ?_
      refine q_iast (f := f) (ws1 := rowW cA a b n (upd f (q_n i) v)) hx hb hK hP hD hS 1 0 rfl rfl (q_n i) (q_in0 c_1 c_10 hn) (q_in1 c_1 c_10 hn) (by omega) rfl dX3_put_19 (fun H locs hP hD hS => ?_)
      exact q_vret hx hb hr hlk (va_cast' hP (by first | rw [← rPut_n0 c_1] | rw [← rPut_n1 c_10] | rw [← rPut_in c_1 c_10])) hS dX3_put_20
abbrev rm_X3_putN : Room := { frames := 0, cells := 0, slots := 0, locals := 0 }
set_option maxRecDepth 100000 in
set_option maxHeartbeats 4000000 in
theorem c_X3_putN (l : Launch) (D : va_G) (cA : ClassId) (a b n : Nat) (f : Nat → Int32) (k : Nat) (v : Int32) (hk : k < n) (hn : n ≤ 1000) : q_CV l yX3_put [Cond.code yX3_put cX3_put 3 none] rm_X3_putN D cA [.ref a, .int (nI k), .int v] (rowW cA a b n f) (rowW cA a b n (upd f k v)) := by
  refine q_startV RX3 (by decide +kernel) rfl (Nat.le_of_ble_eq_true rfl) ?_
  intro p e s m below meth c A args H locs ls hx hb hr hml hown hT hlk hP hK hD hA hS hl
  have hl : lv_has ls 3 [(0, .ref a), (1, .int (nI k)), (2, .int v)] := hl
  refine lv_iload_n hx hb dX3_put_0 rfl (lv_at hl 1 rfl) ?_
  refine lv_if_lt (tgt := 20) hx hb dX3_put_1 (by decide) (fun c_1 => ?_) (fun c_1 => ?_)
  · exact absurd c_1 (nI_pos (by omega))
  · refine lv_iload_n hx hb dX3_put_4 rfl (lv_at hl 1 rfl) ?_
    refine lv_aload_n hx hb dX3_put_5 rfl (lv_at hl 0 rfl) ?_
    refine q_get hx hb hT hown hK hP kw_X3 0 rfl rfl 0 (by decide) kf_X3_13 rfl (v := .ref b) rfl dX3_put_6 ?_
    refine va_alen hx hb hK hP 1 0 rfl rfl (v := nI n) rfl dX3_put_9 ?_
    refine lv_icmp_ge (tgt := 20) hx hb dX3_put_10 (by decide) (fun c_10 => ?_) (fun c_10 => ?_)
    · have c_10 := nI_le1 (a := n) (b := k) (by omega) (by omega) c_10
      exfalso; omega
    · have c_10 := nI_le0 (a := n) (b := k) (by omega) (by omega) c_10
      refine lv_aload_n hx hb dX3_put_13 rfl (lv_at hl 0 rfl) ?_
      refine q_get hx hb hT hown hK hP kw_X3 0 rfl rfl 0 (by decide) kf_X3_13 rfl (v := .ref b) rfl dX3_put_14 ?_
      refine lv_iload_n hx hb dX3_put_17 rfl (lv_at hl 1 rfl) ?_
      refine lv_iload_n hx hb dX3_put_18 rfl (lv_at hl 2 rfl) ?_
      refine q_iast (f := f) (ws1 := rowW cA a b n (upd f k v)) hx hb hK hP hD hS 1 0 rfl rfl (k) rfl (by omega) (by omega) rfl dX3_put_19 (fun H locs hP hD hS => ?_)
      exact q_vret hx hb hr hlk hP hS dX3_put_20
abbrev rm_X3_fill : Room := { frames := 0, cells := 0, slots := 0, locals := 0 }
set_option maxRecDepth 100000 in
set_option maxHeartbeats 4000000 in
theorem c_X3_fill (l : Launch) (D : va_G) (cA : ClassId) (a b n : Nat) (f : Nat → Int32) (v : Int32) (hn : n ≤ 1000) : q_CV l yX3_fill [Cond.code yX3_fill cX3_fill 3 none] rm_X3_fill D cA [.ref a, .int v] (rowW cA a b n f) (rowW cA a b n (fun _ => v)) := by
  refine q_startV RX3 (by decide +kernel) rfl (Nat.le_of_ble_eq_true rfl) ?_
  intro p e s m below meth c A args H locs ls hx hb hr hml hown hT hlk hP hK hD hA hS hl
  have hl : lv_has ls 3 [(0, .ref a), (1, .int v)] := hl
  have zqL2 : ∀ (fu : Nat), ∀ (k : Nat), (n + 1 ≤ k + fu) → (k ≤ n) → ∀ (H : Heap) (locs : List Loc) (ls : Array Slot), va_P D vwCl (rowW cA a b n (fillTo f v k)) H → va_D A (rowW cA a b n (fillTo f v k)) → va_S A s.heap H locs → lv_has ls 3 [(0, .ref a), (1, .int v), (2, .int (nI k))] → W p l e rm_X3_fill s m args below meth c H locs 0 0 (q_GV D (rowW cA a b n (fun _ => v)) A below args s) (F0 m 2 ls []) := by
    intro fu
    induction fu with
    | zero =>
      intro k hfu hk H locs ls hP hD hS hl
      exfalso; omega
    | succ fu ih2 =>
      intro k hfu hk H locs ls hP hD hS hl
      refine lv_iload_n hx hb dX3_fill_2 rfl (lv_at hl 2 rfl) ?_
      refine lv_aload_n hx hb dX3_fill_3 rfl (lv_at hl 0 rfl) ?_
      refine q_get hx hb hT hown hK hP kw_X3 0 rfl rfl 0 (by decide) kf_X3_13 rfl (v := .ref b) rfl dX3_fill_4 ?_
      refine va_alen hx hb hK hP 1 0 rfl rfl (v := nI n) rfl dX3_fill_7 ?_
      refine lv_icmp_ge (tgt := 24) hx hb dX3_fill_8 (by decide) (fun c_8 => ?_) (fun c_8 => ?_)
      · have c_8 := nI_le1 (a := n) (b := k) (by omega) (by omega) c_8
        exact q_vret hx hb hr hlk (fill_ext hP (by omega)) hS dX3_fill_24
      · have c_8 := nI_le0 (a := n) (b := k) (by omega) (by omega) c_8
        refine lv_aload_n hx hb dX3_fill_11 rfl (lv_at hl 0 rfl) ?_
        refine q_get hx hb hT hown hK hP kw_X3 0 rfl rfl 0 (by decide) kf_X3_13 rfl (v := .ref b) rfl dX3_fill_12 ?_
        refine lv_iload_n hx hb dX3_fill_15 rfl (lv_at hl 2 rfl) ?_
        refine lv_iload_n hx hb dX3_fill_16 rfl (lv_at hl 1 rfl) ?_
        refine q_iast (f := fillTo f v k) (ws1 := rowW cA a b n (upd (fillTo f v k) k v)) hx hb hK hP hD hS 1 0 rfl rfl (k) rfl (by omega) (by omega) rfl dX3_fill_17 (fun H locs hP hD hS => ?_)
        refine lv_iinc (v := nI (k + 1)) (lv' := [(2, .int (nI (k + 1))), (0, .ref a), (1, .int v)]) hx hb dX3_fill_18 hl (k := 2) rfl (q_inc1 _) (by decide) rfl (fun ls hl => ?_)
        refine lv_goto (tgt := 2) hx hb dX3_fill_21 (by decide) ?_
        have ew9 : (rowW cA a b n (upd (fillTo f v k) k v)) = (rowW cA a b n (fillTo f v (k + 1))) := by first | with_reducible rfl | (first | rw [fillTo_0] | rw [fillTo_s])
        have hP : va_P D vwCl (rowW cA a b n (fillTo f v (k + 1))) H := va_cast' hP ew9
        have hD : va_D A (rowW cA a b n (fillTo f v (k + 1))) := va_castD hD ew9
        exact ih2 (k + 1) (by omega) (by omega) _ _ _ hP hD hS (lv_sub hl [1, 2, 0] rfl)
  refine lv_iconst (v := nI 0) hx hb dX3_fill_0 (by decide +kernel) ?_
  refine lv_istore_n (lv' := [(2, .int (nI 0)), (0, .ref a), (1, .int v)]) hx hb dX3_fill_1 rfl hl (by decide) rfl (fun ls hl => ?_)
  have ew9 : (rowW cA a b n f) = (rowW cA a b n (fillTo f v 0)) := by first | with_reducible rfl | (first | rw [fillTo_0] | rw [fillTo_s])
  have hP : va_P D vwCl (rowW cA a b n (fillTo f v 0)) H := va_cast' hP ew9
  have hD : va_D A (rowW cA a b n (fillTo f v 0)) := va_castD hD ew9
  exact zqL2 (n + 1) 0 (by omega) (by omega) _ _ _ hP hD hS (lv_sub hl [1, 2, 0] rfl)
abbrev rm_X3_copyFrom : Room := { frames := 1, cells := 0, slots := 0, locals := 21 }
set_option maxRecDepth 100000 in
set_option maxHeartbeats 4000000 in
theorem c_X3_copyFrom (l : Launch) (D : va_G) (cA : ClassId) (a b a2 b2 n : Nat) (f r : Nat → Int32) (hn : n ≤ 1000) : q_CV l yX3_copyFrom [Cond.code yX3_copyFrom cX3_copyFrom 3 none] rm_X3_copyFrom D cA [.ref a, .ref a2] (row2W cA a b a2 b2 n f r) (row2W cA a b a2 b2 n r r) := by
  refine q_startV RX3 (by decide +kernel) rfl (Nat.le_of_ble_eq_true rfl) ?_
  intro p e s m below meth c A args H locs ls hx hb hr hml hown hT hlk hP hK hD hA hS hl
  have hl : lv_has ls 3 [(0, .ref a), (1, .ref a2)] := hl
  have zqL2 : ∀ (fu : Nat), ∀ (k : Nat), (n + 1 ≤ k + fu) → (k ≤ n) → ∀ (H : Heap) (locs : List Loc) (ls : Array Slot), va_P D vwCl (row2W cA a b a2 b2 n (copyTo f r k) r) H → va_D A (row2W cA a b a2 b2 n (copyTo f r k) r) → va_S A s.heap H locs → lv_has ls 3 [(0, .ref a), (1, .ref a2), (2, .int (nI k))] → W p l e rm_X3_copyFrom s m args below meth c H locs 0 0 (q_GV D (row2W cA a b a2 b2 n r r) A below args s) (F0 m 2 ls []) := by
    intro fu
    induction fu with
    | zero =>
      intro k hfu hk H locs ls hP hD hS hl
      exfalso; omega
    | succ fu ih2 =>
      intro k hfu hk H locs ls hP hD hS hl
      refine lv_iload_n hx hb dX3_copyFrom_2 rfl (lv_at hl 2 rfl) ?_
      refine lv_aload_n hx hb dX3_copyFrom_3 rfl (lv_at hl 0 rfl) ?_
      refine q_get hx hb hT hown hK hP kw_X3 0 rfl rfl 0 (by decide) kf_X3_13 rfl (v := .ref b) rfl dX3_copyFrom_4 ?_
      refine va_alen hx hb hK hP 1 0 rfl rfl (v := nI n) rfl dX3_copyFrom_7 ?_
      refine lv_icmp_ge (tgt := 28) hx hb dX3_copyFrom_8 (by decide) (fun c_8 => ?_) (fun c_8 => ?_)
      · have c_8 := nI_le1 (a := n) (b := k) (by omega) (by omega) c_8
        exact q_vret hx hb hr hlk (copy_ext hP (by omega)) hS dX3_copyFrom_28
      · have c_8 := nI_le0 (a := n) (b := k) (by omega) (by omega) c_8
        refine lv_aload_n hx hb dX3_copyFrom_11 rfl (lv_at hl 0 rfl) ?_
        refine q_get hx hb hT hown hK hP kw_X3 0 rfl rfl 0 (by decide) kf_X3_13 rfl (v := .ref b) rfl dX3_copyFrom_12 ?_
        refine lv_iload_n hx hb dX3_copyFrom_15 rfl (lv_at hl 2 rfl) ?_
        refine lv_aload_n hx hb dX3_copyFrom_16 rfl (lv_at hl 1 rfl) ?_
        refine lv_iload_n hx hb dX3_copyFrom_17 rfl (lv_at hl 2 rfl) ?_
        refine q_callI (As := [.int (nI k)]) (r := r k) (wc := rowW cA a2 b2 n r) (w1 := rowW cA a2 b2 n r) (ws1 := row2W cA a b a2 b2 n (copyTo f r k) r) hx hb hml hown hT hK hP hD hS hA (c_X3_atN l D cA a2 b2 n r k (by omega) (by omega)) k_X3_at kl_X3_19 (q0 := 0) rfl rfl rfl [2, 3] rfl rfl rfl rfl hl rfl rfl (Nat.le_of_ble_eq_true rfl) ⟨⟨rfl, rfl⟩, Nat.le_of_ble_eq_true rfl, Nat.le_of_ble_eq_true rfl⟩ ⟨Nat.zero_le _, Nat.zero_le _⟩ dX3_copyFrom_18 (fun H locs hP hD hS => ?_)
        refine q_iast (f := copyTo f r k) (ws1 := row2W cA a b a2 b2 n (upd (copyTo f r k) k (r k)) r) hx hb hK hP hD hS 1 0 rfl rfl (k) rfl (by omega) (by omega) rfl dX3_copyFrom_21 (fun H locs hP hD hS => ?_)
        refine lv_iinc (v := nI (k + 1)) (lv' := [(2, .int (nI (k + 1))), (0, .ref a), (1, .ref a2)]) hx hb dX3_copyFrom_22 hl (k := 2) rfl (q_inc1 _) (by decide) rfl (fun ls hl => ?_)
        refine lv_goto (tgt := 2) hx hb dX3_copyFrom_25 (by decide) ?_
        have ew9 : (row2W cA a b a2 b2 n (upd (copyTo f r k) k (r k)) r) = (row2W cA a b a2 b2 n (copyTo f r (k + 1)) r) := by first | with_reducible rfl | (first | rw [copyTo_0] | rw [copyTo_s])
        have hP : va_P D vwCl (row2W cA a b a2 b2 n (copyTo f r (k + 1)) r) H := va_cast' hP ew9
        have hD : va_D A (row2W cA a b a2 b2 n (copyTo f r (k + 1)) r) := va_castD hD ew9
        exact ih2 (k + 1) (by omega) (by omega) _ _ _ hP hD hS (lv_sub hl [1, 2, 0] rfl)
  refine lv_iconst (v := nI 0) hx hb dX3_copyFrom_0 (by decide +kernel) ?_
  refine lv_istore_n (lv' := [(2, .int (nI 0)), (0, .ref a), (1, .ref a2)]) hx hb dX3_copyFrom_1 rfl hl (by decide) rfl (fun ls hl => ?_)
  have ew9 : (row2W cA a b a2 b2 n f r) = (row2W cA a b a2 b2 n (copyTo f r 0) r) := by first | with_reducible rfl | (first | rw [copyTo_0] | rw [copyTo_s])
  have hP : va_P D vwCl (row2W cA a b a2 b2 n (copyTo f r 0) r) H := va_cast' hP ew9
  have hD : va_D A (row2W cA a b a2 b2 n (copyTo f r 0) r) := va_castD hD ew9
  exact zqL2 (n + 1) 0 (by omega) (by omega) _ _ _ hP hD hS (lv_sub hl [1, 2, 0] rfl)
