abbrev prW (cA : ClassId) (q a b n : Nat) (f : Nat → Int32) : va_W := [(q, .inr (1, [.ref a])), (a, .inr (3, [.ref b])), (b, .inl (cA, n, .inl f))]
/-- a set by bits has a number -/
def hasB (x y : Int32) : Bool := decide (¬ ((x >>> (y &&& 31)) &&& nI 1) = 0)
theorem hasB_t {x y : Int32} (h : ¬ ((x >>> (y &&& 31)) &&& nI 1) = 0) : hasB x y = true := decide_eq_true h
theorem hasB_f {x y : Int32} (h : ((x >>> (y &&& 31)) &&& nI 1) = 0) : hasB x y = false := decide_eq_false (fun z => z h)
/-- a number goes in, or out -/
def bitS (is : Bool) (x y : Int32) : Int32 := bif is then x ||| (nI 1 <<< (y &&& 31)) else x &&& ((nI 1 <<< (y &&& 31)) ^^^ (-1))
/-- of two, both ways -/
def tellF (is : Bool) (f : Nat → Int32) (j k : Nat) : Nat → Int32 := upd (upd f j (bitS is (f j) (nI k))) k (bitS is (upd f j (bitS is (f j) (nI k)) k) (nI j))
abbrev rm_X1_has : Room := { frames := 1, cells := 0, slots := 0, locals := 21 }
set_option maxRecDepth 100000 in
set_option maxHeartbeats 4000000 in
theorem c_X1_has (l : Launch) (D : va_G) (cA : ClassId) (q a b n : Nat) (f : Nat → Int32) (i y : Int32) (hn : n ≤ 1000) : q_CI l yX1_has [Cond.code yX1_has cX1_has 3 (some .boolean)] rm_X1_has D cA [.ref q, .int i, .int y] (prW cA q a b n f) (q_b (hasB (rAt n f i) y)) (prW cA q a b n f) := by
  refine q_startI RX1 (by decide +kernel) rfl (Nat.le_of_ble_eq_true rfl) ?_
  intro p e s m below meth c A args H locs ls hx hb hr hml hown hT hlk hP hK hD hA hS hl
  have hl : lv_has ls 3 [(0, .ref q), (1, .int i), (2, .int y)] := hl
  refine lv_aload_n hx hb dX1_has_0 rfl (lv_at hl 0 rfl) ?_
  refine q_get hx hb hT hown hK hP kw_X1 0 rfl rfl 0 (by decide) kf_X1_12 rfl (v := .ref a) rfl dX1_has_1 ?_
  refine lv_iload_n hx hb dX1_has_4 rfl (lv_at hl 1 rfl) ?_
  refine q_callI (As := [.int i]) (r := rAt n f i) (wc := rowW cA a b n f) (w1 := rowW cA a b n f) (ws1 := prW cA q a b n f) hx hb hml hown hT hK hP hD hS hA (c_X3_at l D cA a b n f i (by omega)) k_X3_at kl_X1_18 (q0 := 0) rfl rfl rfl [1, 2] rfl rfl rfl rfl hl rfl rfl (Nat.le_of_ble_eq_true rfl) ⟨⟨rfl, rfl⟩, Nat.le_of_ble_eq_true rfl, Nat.le_of_ble_eq_true rfl⟩ ⟨Nat.zero_le _, Nat.zero_le _⟩ dX1_has_5 (fun H locs hP hD hS => ?_)
  refine lv_iload_n hx hb dX1_has_8 rfl (lv_at hl 2 rfl) ?_
  refine lv_ishr hx hb dX1_has_9 ?_
  refine lv_iconst (v := nI 1) hx hb dX1_has_10 (by decide +kernel) ?_
  refine lv_iand hx hb dX1_has_11 ?_
  refine lv_if_eq (tgt := 19) hx hb dX1_has_12 (by decide) (fun c_12 => ?_) (fun c_12 => ?_)
  · refine lv_iconst (v := nI 0) hx hb dX1_has_19 (by decide +kernel) ?_
    exact q_zret hx hb hr hlk (Or.inl rfl) (by first | exact q_bt (hasB_t c_12) | exact q_bf (hasB_f c_12)) hP hS dX1_has_20
  · refine lv_iconst (v := nI 1) hx hb dX1_has_15 (by decide +kernel) ?_
    refine lv_goto (tgt := 20) hx hb dX1_has_16 (by decide) ?_
    exact q_zret hx hb hr hlk (Or.inr rfl) (by first | exact q_bt (hasB_t c_12) | exact q_bf (hasB_f c_12)) hP hS dX1_has_20
abbrev rm_X1_hasN : Room := { frames := 1, cells := 0, slots := 0, locals := 21 }
set_option maxRecDepth 100000 in
set_option maxHeartbeats 4000000 in
theorem c_X1_hasN (l : Launch) (D : va_G) (cA : ClassId) (q a b n : Nat) (f : Nat → Int32) (k : Nat) (y : Int32) (hk : k < n) (hn : n ≤ 1000) : q_CI l yX1_has [Cond.code yX1_has cX1_has 3 (some .boolean)] rm_X1_hasN D cA [.ref q, .int (nI k), .int y] (prW cA q a b n f) (q_b (hasB (f k) y)) (prW cA q a b n f) := by
  refine q_startI RX1 (by decide +kernel) rfl (Nat.le_of_ble_eq_true rfl) ?_
  intro p e s m below meth c A args H locs ls hx hb hr hml hown hT hlk hP hK hD hA hS hl
  have hl : lv_has ls 3 [(0, .ref q), (1, .int (nI k)), (2, .int y)] := hl
  refine lv_aload_n hx hb dX1_has_0 rfl (lv_at hl 0 rfl) ?_
  refine q_get hx hb hT hown hK hP kw_X1 0 rfl rfl 0 (by decide) kf_X1_12 rfl (v := .ref a) rfl dX1_has_1 ?_
  refine lv_iload_n hx hb dX1_has_4 rfl (lv_at hl 1 rfl) ?_
  refine q_callI (As := [.int (nI k)]) (r := f k) (wc := rowW cA a b n f) (w1 := rowW cA a b n f) (ws1 := prW cA q a b n f) hx hb hml hown hT hK hP hD hS hA (c_X3_atN l D cA a b n f k (by omega) (by omega)) k_X3_at kl_X1_18 (q0 := 0) rfl rfl rfl [1, 2] rfl rfl rfl rfl hl rfl rfl (Nat.le_of_ble_eq_true rfl) ⟨⟨rfl, rfl⟩, Nat.le_of_ble_eq_true rfl, Nat.le_of_ble_eq_true rfl⟩ ⟨Nat.zero_le _, Nat.zero_le _⟩ dX1_has_5 (fun H locs hP hD hS => ?_)
  refine lv_iload_n hx hb dX1_has_8 rfl (lv_at hl 2 rfl) ?_
  refine lv_ishr hx hb dX1_has_9 ?_
  refine lv_iconst (v := nI 1) hx hb dX1_has_10 (by decide +kernel) ?_
  refine lv_iand hx hb dX1_has_11 ?_
  refine lv_if_eq (tgt := 19) hx hb dX1_has_12 (by decide) (fun c_12 => ?_) (fun c_12 => ?_)
  · refine lv_iconst (v := nI 0) hx hb dX1_has_19 (by decide +kernel) ?_
    exact q_zret hx hb hr hlk (Or.inl rfl) (by first | exact q_bt (hasB_t c_12) | exact q_bf (hasB_f c_12)) hP hS dX1_has_20
  · refine lv_iconst (v := nI 1) hx hb dX1_has_15 (by decide +kernel) ?_
    refine lv_goto (tgt := 20) hx hb dX1_has_16 (by decide) ?_
    exact q_zret hx hb hr hlk (Or.inr rfl) (by first | exact q_bt (hasB_t c_12) | exact q_bf (hasB_f c_12)) hP hS dX1_has_20
abbrev rm_X1_mark : Room := { frames := 1, cells := 0, slots := 0, locals := 22 }
set_option maxRecDepth 100000 in
set_option maxHeartbeats 4000000 in
theorem c_X1_mark (l : Launch) (D : va_G) (cA : ClassId) (q a b n : Nat) (f : Nat → Int32) (k : Nat) (y : Int32) (is : Bool) (hk : k < n) (hn : n ≤ 1000) : q_CV l yX1_mark [Cond.code yX1_mark cX1_mark 5 none] rm_X1_mark D cA [.ref q, .int (nI k), .int y, .int (q_b is)] (prW cA q a b n f) (prW cA q a b n (upd f k (bitS is (f k) y))) := by
  refine q_startV RX1 (by decide +kernel) rfl (Nat.le_of_ble_eq_true rfl) ?_
  intro p e s m below meth c A args H locs ls hx hb hr hml hown hT hlk hP hK hD hA hS hl
  have hl : lv_has ls 5 [(0, .ref q), (1, .int (nI k)), (2, .int y), (3, .int (q_b is))] := hl
  have zqJ41 : ∀ (H : Heap) (locs : List Loc) (ls : Array Slot), va_P D vwCl (prW cA q a b n f) H → va_D A (prW cA q a b n f) → va_S A s.heap H locs → lv_has ls 5 [] → W p l e rm_X1_mark s m args below meth c H locs 0 0 (q_GV D (prW cA q a b n (upd f k (bitS is (f k) y))) A below args s) (F0 m 41 ls [.int (bitS is (f k) y), .int (nI k), .ref a]) := by
    intro   H locs ls hP hD hS hl
    refine q_callV (As := [.int (nI k), .int (bitS is (f k) y)]) (wc := rowW cA a b n f) (w1 := rowW cA a b n (upd f k (bitS is (f k) y))) (ws1 := prW cA q a b n (upd f k (bitS is (f k) y))) hx hb hml hown hT hK hP hD hS hA (c_X3_putN l D cA a b n f k (bitS is (f k) y) (by omega) (by omega)) k_X3_put kl_X1_30 (q0 := 0) rfl rfl rfl [1, 2] rfl rfl rfl rfl hl rfl rfl (Nat.le_of_ble_eq_true rfl) ⟨⟨rfl, rfl⟩, Nat.le_of_ble_eq_true rfl, Nat.le_of_ble_eq_true rfl⟩ ⟨Nat.zero_le _, Nat.zero_le _⟩ dX1_mark_41 (fun H locs hP hD hS => ?_)
    exact q_vret hx hb hr hlk hP hS dX1_mark_44
  refine lv_iconst (v := nI 1) hx hb dX1_mark_0 (by decide +kernel) ?_
  refine lv_iload_n hx hb dX1_mark_1 rfl (lv_at hl 2 rfl) ?_
  refine lv_ishl hx hb dX1_mark_2 ?_
  refine lv_istore (lv' := [(4, .int ((nI 1) <<< (y &&& 31))), (0, .ref q), (1, .int (nI k)), (2, .int y), (3, .int (q_b is))]) hx hb dX1_mark_3 hl (by decide) rfl (fun ls hl => ?_)
  refine lv_aload_n hx hb dX1_mark_5 rfl (lv_at hl 1 rfl) ?_
  refine q_get hx hb hT hown hK hP kw_X1 0 rfl rfl 0 (by decide) kf_X1_12 rfl (v := .ref a) rfl dX1_mark_6 ?_
  refine lv_iload_n hx hb dX1_mark_9 rfl (lv_at hl 2 rfl) ?_
  refine lv_iload_n hx hb dX1_mark_10 rfl (lv_at hl 4 rfl) ?_
  refine lv_if_eq (tgt := 28) hx hb dX1_mark_11 (by decide) (fun c_11 => ?_) (fun c_11 => ?_)
  · have c_11 := q_b0e c_11
    refine lv_aload_n hx hb dX1_mark_28 rfl (lv_at hl 1 rfl) ?_
    refine q_get hx hb hT hown hK hP kw_X1 0 rfl rfl 0 (by decide) kf_X1_12 rfl (v := .ref a) rfl dX1_mark_29 ?_
    refine lv_iload_n hx hb dX1_mark_32 rfl (lv_at hl 2 rfl) ?_
    refine q_callI (As := [.int (nI k)]) (r := f k) (wc := rowW cA a b n f) (w1 := rowW cA a b n f) (ws1 := prW cA q a b n f) hx hb hml hown hT hK hP hD hS hA (c_X3_atN l D cA a b n f k (by omega) (by omega)) k_X3_at kl_X1_18 (q0 := 0) rfl rfl rfl [1, 2] rfl rfl rfl rfl hl rfl rfl (Nat.le_of_ble_eq_true rfl) ⟨⟨rfl, rfl⟩, Nat.le_of_ble_eq_true rfl, Nat.le_of_ble_eq_true rfl⟩ ⟨Nat.zero_le _, Nat.zero_le _⟩ dX1_mark_33 (fun H locs hP hD hS => ?_)
    refine lv_iload hx hb dX1_mark_36 (lv_at hl 0 rfl) ?_
    refine lv_iconst (v := (-1)) hx hb dX1_mark_38 (by decide +kernel) ?_
    refine lv_ixor hx hb dX1_mark_39 ?_
    refine lv_iand hx hb dX1_mark_40 ?_
    refine q_top (y := bitS is (f k) y) (by rw [c_11]; rfl) ?_
    exact zqJ41   _ _ _ hP hD hS (lv_sub hl [] rfl)
  · have c_11 := q_b0n c_11
    refine lv_aload_n hx hb dX1_mark_14 rfl (lv_at hl 1 rfl) ?_
    refine q_get hx hb hT hown hK hP kw_X1 0 rfl rfl 0 (by decide) kf_X1_12 rfl (v := .ref a) rfl dX1_mark_15 ?_
    refine lv_iload_n hx hb dX1_mark_18 rfl (lv_at hl 2 rfl) ?_
    refine q_callI (As := [.int (nI k)]) (r := f k) (wc := rowW cA a b n f) (w1 := rowW cA a b n f) (ws1 := prW cA q a b n f) hx hb hml hown hT hK hP hD hS hA (c_X3_atN l D cA a b n f k (by omega) (by omega)) k_X3_at kl_X1_18 (q0 := 0) rfl rfl rfl [1, 2] rfl rfl rfl rfl hl rfl rfl (Nat.le_of_ble_eq_true rfl) ⟨⟨rfl, rfl⟩, Nat.le_of_ble_eq_true rfl, Nat.le_of_ble_eq_true rfl⟩ ⟨Nat.zero_le _, Nat.zero_le _⟩ dX1_mark_19 (fun H locs hP hD hS => ?_)
    refine lv_iload hx hb dX1_mark_22 (lv_at hl 0 rfl) ?_
    refine lv_ior hx hb dX1_mark_24 ?_
    refine lv_goto (tgt := 41) hx hb dX1_mark_25 (by decide) ?_
    refine q_top (y := bitS is (f k) y) (by rw [c_11]; rfl) ?_
    exact zqJ41   _ _ _ hP hD hS (lv_sub hl [] rfl)
abbrev rm_X1_tell : Room := { frames := 2, cells := 0, slots := 0, locals := 46 }
set_option maxRecDepth 100000 in
set_option maxHeartbeats 4000000 in
theorem c_X1_tell (l : Launch) (D : va_G) (cA : ClassId) (q a b n : Nat) (f : Nat → Int32) (j k : Nat) (is : Bool) (hj : j < n) (hk : k < n) (hn : n ≤ 1000) : q_CI l yX1_tell [Cond.code yX1_tell cX1_tell 5 (some .boolean)] rm_X1_tell D cA [.ref q, .int (nI j), .int (nI k), .int (q_b is)] (prW cA q a b n f) (q_b (hasB (f j) (nI k))) (prW cA q a b n (tellF is f j k)) := by
  refine q_startI RX1 (by decide +kernel) rfl (Nat.le_of_ble_eq_true rfl) ?_
  intro p e s m below meth c A args H locs ls hx hb hr hml hown hT hlk hP hK hD hA hS hl
  have hl : lv_has ls 5 [(0, .ref q), (1, .int (nI j)), (2, .int (nI k)), (3, .int (q_b is))] := hl
  refine lv_aload_n hx hb dX1_tell_0 rfl (lv_at hl 0 rfl) ?_
  refine lv_iload_n hx hb dX1_tell_1 rfl (lv_at hl 1 rfl) ?_
  refine lv_iload_n hx hb dX1_tell_2 rfl (lv_at hl 2 rfl) ?_
  refine q_callIW (As := [.int (nI j), .int (nI k)]) (r := q_b (hasB (f j) (nI k))) (w1 := prW cA q a b n f) hx hb hml hown hT hK hP hD hS hA (c_X1_hasN l D cA q a b n f j (nI k) (by omega) (by omega)) k_X1_has kl_X1_22 (q0 := 0) rfl rfl rfl rfl hl rfl rfl (Nat.le_of_ble_eq_true rfl) ⟨⟨rfl, rfl⟩, Nat.le_of_ble_eq_true rfl, Nat.le_of_ble_eq_true rfl⟩ ⟨Nat.zero_le _, Nat.zero_le _⟩ dX1_tell_3 (fun H locs hP hD hS => ?_)
  refine lv_istore (lv' := [(4, .int (q_b (hasB (f j) (nI k)))), (0, .ref q), (1, .int (nI j)), (2, .int (nI k)), (3, .int (q_b is))]) hx hb dX1_tell_6 hl (by decide) rfl (fun ls hl => ?_)
  refine lv_aload_n hx hb dX1_tell_8 rfl (lv_at hl 1 rfl) ?_
  refine lv_iload_n hx hb dX1_tell_9 rfl (lv_at hl 2 rfl) ?_
  refine lv_iload_n hx hb dX1_tell_10 rfl (lv_at hl 3 rfl) ?_
  refine lv_iload_n hx hb dX1_tell_11 rfl (lv_at hl 4 rfl) ?_
  refine q_callVW (As := [.int (nI j), .int (nI k), .int (q_b is)]) (w1 := prW cA q a b n (upd f j (bitS is (f j) (nI k)))) hx hb hml hown hT hK hP hD hS hA (c_X1_mark l D cA q a b n f j (nI k) is (by omega) (by omega)) k_X1_mark kl_X1_26 (q0 := 0) rfl rfl rfl rfl hl rfl rfl (Nat.le_of_ble_eq_true rfl) ⟨⟨rfl, rfl⟩, Nat.le_of_ble_eq_true rfl, Nat.le_of_ble_eq_true rfl⟩ ⟨Nat.zero_le _, Nat.zero_le _⟩ dX1_tell_12 (fun H locs hP hD hS => ?_)
  refine lv_aload_n hx hb dX1_tell_15 rfl (lv_at hl 1 rfl) ?_
  refine lv_iload_n hx hb dX1_tell_16 rfl (lv_at hl 3 rfl) ?_
  refine lv_iload_n hx hb dX1_tell_17 rfl (lv_at hl 2 rfl) ?_
  refine lv_iload_n hx hb dX1_tell_18 rfl (lv_at hl 4 rfl) ?_
  refine q_callVW (As := [.int (nI k), .int (nI j), .int (q_b is)]) (w1 := prW cA q a b n (upd (upd f j (bitS is (f j) (nI k))) k (bitS is ((upd f j (bitS is (f j) (nI k))) k) (nI j)))) hx hb hml hown hT hK hP hD hS hA (c_X1_mark l D cA q a b n (upd f j (bitS is (f j) (nI k))) k (nI j) is (by omega) (by omega)) k_X1_mark kl_X1_26 (q0 := 0) rfl rfl rfl rfl hl rfl rfl (Nat.le_of_ble_eq_true rfl) ⟨⟨rfl, rfl⟩, Nat.le_of_ble_eq_true rfl, Nat.le_of_ble_eq_true rfl⟩ ⟨Nat.zero_le _, Nat.zero_le _⟩ dX1_tell_19 (fun H locs hP hD hS => ?_)
  refine lv_iload hx hb dX1_tell_22 (lv_at hl 0 rfl) ?_
  exact q_zret hx hb hr hlk (q_b_or _) (by rfl) (va_cast' hP (by rfl)) hS dX1_tell_24
