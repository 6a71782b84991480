theorem q_fs_X0 : ∀ j, j < 6 → defaultValue (tyX0 j) = vp_V [.null, .null, .null, .null, .null, .int 0] j := fun j hj => match j, hj with
  | 0, _ => rfl
  | 1, _ => rfl
  | 2, _ => rfl
  | 3, _ => rfl
  | 4, _ => rfl
  | 5, _ => rfl
  | (j + 6), h => absurd h (by omega)
theorem q_fs_X1 : ∀ j, j < 1 → defaultValue (tyX1 j) = vp_V [.null] j := fun j hj => match j, hj with
  | 0, _ => rfl
  | (j + 1), h => absurd h (by omega)
theorem q_fs_X2 : ∀ j, j < 3 → defaultValue (tyX2 j) = vp_V [.null, .null, .int 0] j := fun j hj => match j, hj with
  | 0, _ => rfl
  | 1, _ => rfl
  | 2, _ => rfl
  | (j + 3), h => absurd h (by omega)
theorem q_fs_X3 : ∀ j, j < 1 → defaultValue (tyX3 j) = vp_V [.null] j := fun j hj => match j, hj with
  | 0, _ => rfl
  | (j + 1), h => absurd h (by omega)
theorem q_fs_X4 : ∀ j, j < 11 → defaultValue (tyX4 j) = vp_V [.null, .null, .null, .null, .null, .null, .null, .null, .null, .null, .int 0] j := fun j hj => match j, hj with
  | 0, _ => rfl
  | 1, _ => rfl
  | 2, _ => rfl
  | 3, _ => rfl
  | 4, _ => rfl
  | 5, _ => rfl
  | 6, _ => rfl
  | 7, _ => rfl
  | 8, _ => rfl
  | 9, _ => rfl
  | 10, _ => rfl
  | (j + 11), h => absurd h (by omega)
theorem q_fs_X5 : ∀ j, j < 16 → defaultValue (tyX5 j) = vp_V [.null, .null, .null, .null, .null, .null, .null, .null, .null, .null, .null, .null, .null, .null, .null, .int 0] j := fun j hj => match j, hj with
  | 0, _ => rfl
  | 1, _ => rfl
  | 2, _ => rfl
  | 3, _ => rfl
  | 4, _ => rfl
  | 5, _ => rfl
  | 6, _ => rfl
  | 7, _ => rfl
  | 8, _ => rfl
  | 9, _ => rfl
  | 10, _ => rfl
  | 11, _ => rfl
  | 12, _ => rfl
  | 13, _ => rfl
  | 14, _ => rfl
  | 15, _ => rfl
  | (j + 16), h => absurd h (by omega)
abbrev rm_X3_init (n : Nat) : Room := { frames := 1, cells := 1, slots := 0 + n, locals := 14 }
set_option maxRecDepth 100000 in
set_option maxHeartbeats 4000000 in
theorem c_X3_init (l : Launch) (D : va_G) (cA : ClassId) (a : Nat) (n : Nat) (hn : n ≤ 1000) : q_CN l yX3_init [Cond.code yX3_init cX3_init 2 none] (rm_X3_init n) D cA [.ref a, .int (nI n)] [(a, .inr (3, [.null]))] (fun u : Nat => True) (fun u => rowW cA a u n (fun _ => nI 0)) 1 (0 + n) := by
  refine q_startN RX3 (by decide +kernel) rfl rfl (Nat.le_of_ble_eq_true rfl) ?_
  intro p e s m below meth c A args H locs ls hx hb hr hml hown hT hlk hP hK hD hA hS hl hX hin
  have hl : lv_has ls 2 [(0, .ref a), (1, .int (nI n))] := hl
  refine lv_aload_n hx hb dX3_init_0 rfl (lv_at hl 0 rfl) ?_
  refine q_oinit hx hb hml hown hT hl kl_X3_1 ⟨Nat.le_of_ble_eq_true rfl, Nat.le_of_ble_eq_true rfl⟩ dX3_init_1 ?_
  refine lv_aload_n hx hb dX3_init_4 rfl (lv_at hl 0 rfl) ?_
  refine lv_iload_n hx hb dX3_init_5 rfl (lv_at hl 1 rfl) ?_
  refine lv_iconst (v := nI 0) hx hb dX3_init_6 (by decide +kernel) ?_
  refine q_max0 hx hb hml hown hT hl kl_X3_7 (Nat.le_of_ble_eq_true rfl) (Nat.le_of_ble_eq_true rfl) ⟨Nat.le_of_ble_eq_true rfl, Nat.zero_le _⟩ (by omega) dX3_init_7 ?_
  refine q_newa (n := n) hx hb hT hK hP hD hS hA (by omega) (Nat.le_of_ble_eq_true rfl) (by show 0 + n ≤ 0 + n; omega) dX3_init_10 (fun q10 H hP hD hS => ?_)
  refine W.widen (k := 1) (n := 0 + n) (by omega) (by omega) ?_
  have hP : va_P D vwCl [(a, .inr (3, [.null])), (q10, .inl (cA, n, .inl (fun _ => nI 0)))] H := hP
  have hD : va_D A [(a, .inr (3, [.null])), (q10, .inl (cA, n, .inl (fun _ => nI 0)))] := hD
  refine q_putF (ty := (.array .int)) (ws1 := [(a, .inr (3, [.ref q10])), (q10, .inl (cA, n, .inl (fun _ => nI 0)))]) hx hb hT hown hK hP hD hS kw_X3 tyX3_ok nmX3 0 rfl rfl 0 (by decide) kf_X3_13 rfl rfl hin rfl (by decide +kernel) rfl rfl (Nat.le_of_ble_eq_true rfl) rfl dX3_init_12 (fun H locs hP hD hS => ?_)
  exact q_nret (u := q10) hx hb hr hlk trivial hP hD hS dX3_init_15
abbrev rm_X1_init (n : Nat) : Room := { frames := 2, cells := 2, slots := 1 + n, locals := 35 }
set_option maxRecDepth 100000 in
set_option maxHeartbeats 4000000 in
theorem c_X1_init (l : Launch) (D : va_G) (cA : ClassId) (a : Nat) (n : Nat) (hn : n ≤ 1000) : q_CN l yX1_init [Cond.code yX1_init cX1_init 2 none] (rm_X1_init n) D cA [.ref a, .int (nI n)] [(a, .inr (1, [.null]))] (fun u : Nat × Nat => True) (fun u => prW cA a u.1 u.2 n (fun _ => nI 0)) 2 (1 + n) := by
  refine q_startN RX1 (by decide +kernel) rfl rfl (Nat.le_of_ble_eq_true rfl) ?_
  intro p e s m below meth c A args H locs ls hx hb hr hml hown hT hlk hP hK hD hA hS hl hX hin
  have hl : lv_has ls 2 [(0, .ref a), (1, .int (nI n))] := hl
  refine lv_aload_n hx hb dX1_init_0 rfl (lv_at hl 0 rfl) ?_
  refine q_oinit hx hb hml hown hT hl kl_X1_1 ⟨Nat.le_of_ble_eq_true rfl, Nat.le_of_ble_eq_true rfl⟩ dX1_init_1 ?_
  refine lv_aload_n hx hb dX1_init_4 rfl (lv_at hl 0 rfl) ?_
  refine q_new (N := 1) (ci := 3) hx hb hT hown kw_X3 tyX3 tyX3_ok kx_X1_7 kn_X3 ki_OfficeholdersRoll_Row hK hP hD hS hA rfl [.null] q_fs_X3 (Nat.le_of_ble_eq_true rfl) (by show 0 + 1 ≤ 1 + n; omega) dX1_init_5 (fun q5 H hP hD hS => ?_)
  refine W.widen (k := 1) (n := 1) (by omega) (by omega) ?_
  refine lv_dup hx hb dX1_init_8 rfl ?_
  refine lv_iload_n hx hb dX1_init_9 rfl (lv_at hl 1 rfl) ?_
  refine q_callN (As := [.int (nI n)]) (mc := 1) (ms := 0 + n) hx hb hml hown hT hX hK hP hD hS hA (c_X3_init l D cA q5 n (by omega)) k_X3_init kl_X1_9 hl rfl rfl (Nat.le_of_ble_eq_true rfl) ⟨⟨rfl, rfl⟩, Nat.le_of_ble_eq_true rfl, Nat.le_of_ble_eq_true rfl⟩ ⟨Nat.le_of_ble_eq_true rfl, (by show 1 + (0 + n) ≤ 1 + n; omega)⟩ dX1_init_10 (fun u10 H locs hu10 hP2 hD2 hS2 => ?_)
  refine W.widen (k := 2) (n := 1 + n) (by omega) (by omega) ?_
  have hS := hS2
  have hP : va_P D vwCl [(a, .inr (1, [.null])), (q5, .inr (3, [.ref u10])), (u10, .inl (cA, n, .inl (fun _ => nI 0)))] H := hP2
  have hD : va_D A [(a, .inr (1, [.null])), (q5, .inr (3, [.ref u10])), (u10, .inl (cA, n, .inl (fun _ => nI 0)))] := hD2
  refine q_putF (ty := (.object "OfficeholdersRoll$Row")) (ws1 := [(a, .inr (1, [.ref q5])), (q5, .inr (3, [.ref u10])), (u10, .inl (cA, n, .inl (fun _ => nI 0)))]) hx hb hT hown hK hP hD hS kw_X1 tyX1_ok nmX1 0 rfl rfl 0 (by decide) kf_X1_12 rfl rfl hin rfl (by decide +kernel) rfl rfl (Nat.le_of_ble_eq_true rfl) rfl dX1_init_13 (fun H locs hP hD hS => ?_)
  exact q_nret (u := (q5, u10)) hx hb hr hlk trivial hP hD hS dX1_init_16
abbrev rm_X4_init : Room := { frames := 3, cells := 20, slots := 482, locals := 62 }
set_option maxRecDepth 100000 in
set_option maxHeartbeats 4000000 in
theorem c_X4_init (l : Launch) (D : va_G) (cA : ClassId) (a : Nat)   : q_CN l yX4_init [Cond.code yX4_init cX4_init 1 none] (rm_X4_init) D cA [.ref a] [(a, .inr (4, [.null, .null, .null, .null, .null, .null, .null, .null, .null, .null, .int 0]))] (fun u : Nat → Nat => u 71 = a) (fun u => yrW cA u (gs (gs (fun _ _ => nI 0) 13 (fun _ => nI 999)) 18 (fun _ => nI 999)) (fun _ => 0)) 20 (482) := by
  refine q_startN RX4 (by decide +kernel) rfl rfl (Nat.le_of_ble_eq_true rfl) ?_
  intro p e s m below meth c A args H locs ls hx hb hr hml hown hT hlk hP hK hD hA hS hl hX hin
  have hl : lv_has ls 1 [(0, .ref a)] := hl
  refine lv_aload_n hx hb dX4_init_0 rfl (lv_at hl 0 rfl) ?_
  refine q_oinit hx hb hml hown hT hl kl_X4_3 ⟨Nat.le_of_ble_eq_true rfl, Nat.le_of_ble_eq_true rfl⟩ dX4_init_1 ?_
  refine lv_aload_n hx hb dX4_init_4 rfl (lv_at hl 0 rfl) ?_
  refine q_new (N := 1) (ci := 3) hx hb hT hown kw_X3 tyX3 tyX3_ok kx_X4_9 kn_X3 ki_OfficeholdersRoll_Row hK hP hD hS hA rfl [.null] q_fs_X3 (Nat.le_of_ble_eq_true rfl) (Nat.le_of_ble_eq_true rfl) dX4_init_5 (fun q5 H hP hD hS => ?_)
  refine W.widen (k := 1) (n := 1) (by omega) (by omega) ?_
  refine lv_dup hx hb dX4_init_8 rfl ?_
  refine lv_bipush (v := nI 16) hx hb dX4_init_9 (by decide +kernel) ?_
  refine q_callN (As := [.int (nI 16)]) (mc := 1) (ms := 16) hx hb hml hown hT hX hK hP hD hS hA (c_X3_init l D cA q5 16 (by omega)) k_X3_init kl_X4_11 hl rfl rfl (Nat.le_of_ble_eq_true rfl) ⟨⟨rfl, rfl⟩, Nat.le_of_ble_eq_true rfl, Nat.le_of_ble_eq_true rfl⟩ ⟨Nat.le_of_ble_eq_true rfl, Nat.le_of_ble_eq_true rfl⟩ dX4_init_11 (fun u11 H locs hu11 hP2 hD2 hS2 => ?_)
  refine W.widen (k := 2) (n := 17) (by omega) (by omega) ?_
  have hS := hS2
  have hP : va_P D vwCl [(a, .inr (4, [.null, .null, .null, .null, .null, .null, .null, .null, .null, .null, .int 0])), (q5, .inr (3, [.ref u11])), (u11, .inl (cA, 16, .inl (fun _ => nI 0)))] H := hP2
  have hD : va_D A [(a, .inr (4, [.null, .null, .null, .null, .null, .null, .null, .null, .null, .null, .int 0])), (q5, .inr (3, [.ref u11])), (u11, .inl (cA, 16, .inl (fun _ => nI 0)))] := hD2
  refine q_putF (ty := (.object "OfficeholdersRoll$Row")) (ws1 := [(a, .inr (4, [.ref q5, .null, .null, .null, .null, .null, .null, .null, .null, .null, .int 0])), (q5, .inr (3, [.ref u11])), (u11, .inl (cA, 16, .inl (fun _ => nI 0)))]) hx hb hT hown hK hP hD hS kw_X4 tyX4_ok nmX4 0 rfl rfl 0 (by decide) kf_X4_14 rfl rfl hin rfl (by decide +kernel) rfl rfl (Nat.le_of_ble_eq_true rfl) rfl dX4_init_14 (fun H locs hP hD hS => ?_)
  refine lv_aload_n hx hb dX4_init_17 rfl (lv_at hl 0 rfl) ?_
  refine q_new (N := 1) (ci := 3) hx hb hT hown kw_X3 tyX3 tyX3_ok kx_X4_9 kn_X3 ki_OfficeholdersRoll_Row hK hP hD hS hA rfl [.null] q_fs_X3 (Nat.le_of_ble_eq_true rfl) (Nat.le_of_ble_eq_true rfl) dX4_init_18 (fun q18 H hP hD hS => ?_)
  refine W.widen (k := 3) (n := 18) (by omega) (by omega) ?_
  refine lv_dup hx hb dX4_init_21 rfl ?_
  refine lv_bipush (v := nI 16) hx hb dX4_init_22 (by decide +kernel) ?_
  refine q_callN (As := [.int (nI 16)]) (mc := 1) (ms := 16) hx hb hml hown hT hX hK hP hD hS hA (c_X3_init l D cA q18 16 (by omega)) k_X3_init kl_X4_11 hl rfl rfl (Nat.le_of_ble_eq_true rfl) ⟨⟨rfl, rfl⟩, Nat.le_of_ble_eq_true rfl, Nat.le_of_ble_eq_true rfl⟩ ⟨Nat.le_of_ble_eq_true rfl, Nat.le_of_ble_eq_true rfl⟩ dX4_init_24 (fun u24 H locs hu24 hP2 hD2 hS2 => ?_)
  refine W.widen (k := 4) (n := 34) (by omega) (by omega) ?_
  have hS := hS2
  have hP : va_P D vwCl [(a, .inr (4, [.ref q5, .null, .null, .null, .null, .null, .null, .null, .null, .null, .int 0])), (q5, .inr (3, [.ref u11])), (u11, .inl (cA, 16, .inl (fun _ => nI 0))), (q18, .inr (3, [.ref u24])), (u24, .inl (cA, 16, .inl (fun _ => nI 0)))] H := hP2
  have hD : va_D A [(a, .inr (4, [.ref q5, .null, .null, .null, .null, .null, .null, .null, .null, .null, .int 0])), (q5, .inr (3, [.ref u11])), (u11, .inl (cA, 16, .inl (fun _ => nI 0))), (q18, .inr (3, [.ref u24])), (u24, .inl (cA, 16, .inl (fun _ => nI 0)))] := hD2
  refine q_putF (ty := (.object "OfficeholdersRoll$Row")) (ws1 := [(a, .inr (4, [.ref q5, .ref q18, .null, .null, .null, .null, .null, .null, .null, .null, .int 0])), (q5, .inr (3, [.ref u11])), (u11, .inl (cA, 16, .inl (fun _ => nI 0))), (q18, .inr (3, [.ref u24])), (u24, .inl (cA, 16, .inl (fun _ => nI 0)))]) hx hb hT hown hK hP hD hS kw_X4 tyX4_ok nmX4 0 rfl rfl 1 (by decide) kf_X4_20 rfl rfl hin rfl (by decide +kernel) rfl rfl (Nat.le_of_ble_eq_true rfl) rfl dX4_init_27 (fun H locs hP hD hS => ?_)
  refine lv_aload_n hx hb dX4_init_30 rfl (lv_at hl 0 rfl) ?_
  refine q_new (N := 1) (ci := 3) hx hb hT hown kw_X3 tyX3 tyX3_ok kx_X4_9 kn_X3 ki_OfficeholdersRoll_Row hK hP hD hS hA rfl [.null] q_fs_X3 (Nat.le_of_ble_eq_true rfl) (Nat.le_of_ble_eq_true rfl) dX4_init_31 (fun q31 H hP hD hS => ?_)
  refine W.widen (k := 5) (n := 35) (by omega) (by omega) ?_
  refine lv_dup hx hb dX4_init_34 rfl ?_
  refine lv_bipush (v := nI 40) hx hb dX4_init_35 (by decide +kernel) ?_
  refine q_callN (As := [.int (nI 40)]) (mc := 1) (ms := 40) hx hb hml hown hT hX hK hP hD hS hA (c_X3_init l D cA q31 40 (by omega)) k_X3_init kl_X4_11 hl rfl rfl (Nat.le_of_ble_eq_true rfl) ⟨⟨rfl, rfl⟩, Nat.le_of_ble_eq_true rfl, Nat.le_of_ble_eq_true rfl⟩ ⟨Nat.le_of_ble_eq_true rfl, Nat.le_of_ble_eq_true rfl⟩ dX4_init_37 (fun u37 H locs hu37 hP2 hD2 hS2 => ?_)
  refine W.widen (k := 6) (n := 75) (by omega) (by omega) ?_
  have hS := hS2
  have hP : va_P D vwCl [(a, .inr (4, [.ref q5, .ref q18, .null, .null, .null, .null, .null, .null, .null, .null, .int 0])), (q5, .inr (3, [.ref u11])), (u11, .inl (cA, 16, .inl (fun _ => nI 0))), (q18, .inr (3, [.ref u24])), (u24, .inl (cA, 16, .inl (fun _ => nI 0))), (q31, .inr (3, [.ref u37])), (u37, .inl (cA, 40, .inl (fun _ => nI 0)))] H := hP2
  have hD : va_D A [(a, .inr (4, [.ref q5, .ref q18, .null, .null, .null, .null, .null, .null, .null, .null, .int 0])), (q5, .inr (3, [.ref u11])), (u11, .inl (cA, 16, .inl (fun _ => nI 0))), (q18, .inr (3, [.ref u24])), (u24, .inl (cA, 16, .inl (fun _ => nI 0))), (q31, .inr (3, [.ref u37])), (u37, .inl (cA, 40, .inl (fun _ => nI 0)))] := hD2
  refine q_putF (ty := (.object "OfficeholdersRoll$Row")) (ws1 := [(a, .inr (4, [.ref q5, .ref q18, .ref q31, .null, .null, .null, .null, .null, .null, .null, .int 0])), (q5, .inr (3, [.ref u11])), (u11, .inl (cA, 16, .inl (fun _ => nI 0))), (q18, .inr (3, [.ref u24])), (u24, .inl (cA, 16, .inl (fun _ => nI 0))), (q31, .inr (3, [.ref u37])), (u37, .inl (cA, 40, .inl (fun _ => nI 0)))]) hx hb hT hown hK hP hD hS kw_X4 tyX4_ok nmX4 0 rfl rfl 2 (by decide) kf_X4_23 rfl rfl hin rfl (by decide +kernel) rfl rfl (Nat.le_of_ble_eq_true rfl) rfl dX4_init_40 (fun H locs hP hD hS => ?_)
  refine lv_aload_n hx hb dX4_init_43 rfl (lv_at hl 0 rfl) ?_
  refine q_new (N := 1) (ci := 3) hx hb hT hown kw_X3 tyX3 tyX3_ok kx_X4_9 kn_X3 ki_OfficeholdersRoll_Row hK hP hD hS hA rfl [.null] q_fs_X3 (Nat.le_of_ble_eq_true rfl) (Nat.le_of_ble_eq_true rfl) dX4_init_44 (fun q44 H hP hD hS => ?_)
  refine W.widen (k := 7) (n := 76) (by omega) (by omega) ?_
  refine lv_dup hx hb dX4_init_47 rfl ?_
  refine lv_bipush (v := nI 40) hx hb dX4_init_48 (by decide +kernel) ?_
  refine q_callN (As := [.int (nI 40)]) (mc := 1) (ms := 40) hx hb hml hown hT hX hK hP hD hS hA (c_X3_init l D cA q44 40 (by omega)) k_X3_init kl_X4_11 hl rfl rfl (Nat.le_of_ble_eq_true rfl) ⟨⟨rfl, rfl⟩, Nat.le_of_ble_eq_true rfl, Nat.le_of_ble_eq_true rfl⟩ ⟨Nat.le_of_ble_eq_true rfl, Nat.le_of_ble_eq_true rfl⟩ dX4_init_50 (fun u50 H locs hu50 hP2 hD2 hS2 => ?_)
  refine W.widen (k := 8) (n := 116) (by omega) (by omega) ?_
  have hS := hS2
  have hP : va_P D vwCl [(a, .inr (4, [.ref q5, .ref q18, .ref q31, .null, .null, .null, .null, .null, .null, .null, .int 0])), (q5, .inr (3, [.ref u11])), (u11, .inl (cA, 16, .inl (fun _ => nI 0))), (q18, .inr (3, [.ref u24])), (u24, .inl (cA, 16, .inl (fun _ => nI 0))), (q31, .inr (3, [.ref u37])), (u37, .inl (cA, 40, .inl (fun _ => nI 0))), (q44, .inr (3, [.ref u50])), (u50, .inl (cA, 40, .inl (fun _ => nI 0)))] H := hP2
  have hD : va_D A [(a, .inr (4, [.ref q5, .ref q18, .ref q31, .null, .null, .null, .null, .null, .null, .null, .int 0])), (q5, .inr (3, [.ref u11])), (u11, .inl (cA, 16, .inl (fun _ => nI 0))), (q18, .inr (3, [.ref u24])), (u24, .inl (cA, 16, .inl (fun _ => nI 0))), (q31, .inr (3, [.ref u37])), (u37, .inl (cA, 40, .inl (fun _ => nI 0))), (q44, .inr (3, [.ref u50])), (u50, .inl (cA, 40, .inl (fun _ => nI 0)))] := hD2
  refine q_putF (ty := (.object "OfficeholdersRoll$Row")) (ws1 := [(a, .inr (4, [.ref q5, .ref q18, .ref q31, .ref q44, .null, .null, .null, .null, .null, .null, .int 0])), (q5, .inr (3, [.ref u11])), (u11, .inl (cA, 16, .inl (fun _ => nI 0))), (q18, .inr (3, [.ref u24])), (u24, .inl (cA, 16, .inl (fun _ => nI 0))), (q31, .inr (3, [.ref u37])), (u37, .inl (cA, 40, .inl (fun _ => nI 0))), (q44, .inr (3, [.ref u50])), (u50, .inl (cA, 40, .inl (fun _ => nI 0)))]) hx hb hT hown hK hP hD hS kw_X4 tyX4_ok nmX4 0 rfl rfl 3 (by decide) kf_X4_26 rfl rfl hin rfl (by decide +kernel) rfl rfl (Nat.le_of_ble_eq_true rfl) rfl dX4_init_53 (fun H locs hP hD hS => ?_)
  refine lv_aload_n hx hb dX4_init_56 rfl (lv_at hl 0 rfl) ?_
  refine q_new (N := 1) (ci := 3) hx hb hT hown kw_X3 tyX3 tyX3_ok kx_X4_9 kn_X3 ki_OfficeholdersRoll_Row hK hP hD hS hA rfl [.null] q_fs_X3 (Nat.le_of_ble_eq_true rfl) (Nat.le_of_ble_eq_true rfl) dX4_init_57 (fun q57 H hP hD hS => ?_)
  refine W.widen (k := 9) (n := 117) (by omega) (by omega) ?_
  refine lv_dup hx hb dX4_init_60 rfl ?_
  refine lv_bipush (v := nI 40) hx hb dX4_init_61 (by decide +kernel) ?_
  refine q_callN (As := [.int (nI 40)]) (mc := 1) (ms := 40) hx hb hml hown hT hX hK hP hD hS hA (c_X3_init l D cA q57 40 (by omega)) k_X3_init kl_X4_11 hl rfl rfl (Nat.le_of_ble_eq_true rfl) ⟨⟨rfl, rfl⟩, Nat.le_of_ble_eq_true rfl, Nat.le_of_ble_eq_true rfl⟩ ⟨Nat.le_of_ble_eq_true rfl, Nat.le_of_ble_eq_true rfl⟩ dX4_init_63 (fun u63 H locs hu63 hP2 hD2 hS2 => ?_)
  refine W.widen (k := 10) (n := 157) (by omega) (by omega) ?_
  have hS := hS2
  have hP : va_P D vwCl [(a, .inr (4, [.ref q5, .ref q18, .ref q31, .ref q44, .null, .null, .null, .null, .null, .null, .int 0])), (q5, .inr (3, [.ref u11])), (u11, .inl (cA, 16, .inl (fun _ => nI 0))), (q18, .inr (3, [.ref u24])), (u24, .inl (cA, 16, .inl (fun _ => nI 0))), (q31, .inr (3, [.ref u37])), (u37, .inl (cA, 40, .inl (fun _ => nI 0))), (q44, .inr (3, [.ref u50])), (u50, .inl (cA, 40, .inl (fun _ => nI 0))), (q57, .inr (3, [.ref u63])), (u63, .inl (cA, 40, .inl (fun _ => nI 0)))] H := hP2
  have hD : va_D A [(a, .inr (4, [.ref q5, .ref q18, .ref q31, .ref q44, .null, .null, .null, .null, .null, .null, .int 0])), (q5, .inr (3, [.ref u11])), (u11, .inl (cA, 16, .inl (fun _ => nI 0))), (q18, .inr (3, [.ref u24])), (u24, .inl (cA, 16, .inl (fun _ => nI 0))), (q31, .inr (3, [.ref u37])), (u37, .inl (cA, 40, .inl (fun _ => nI 0))), (q44, .inr (3, [.ref u50])), (u50, .inl (cA, 40, .inl (fun _ => nI 0))), (q57, .inr (3, [.ref u63])), (u63, .inl (cA, 40, .inl (fun _ => nI 0)))] := hD2
  refine q_putF (ty := (.object "OfficeholdersRoll$Row")) (ws1 := [(a, .inr (4, [.ref q5, .ref q18, .ref q31, .ref q44, .ref q57, .null, .null, .null, .null, .null, .int 0])), (q5, .inr (3, [.ref u11])), (u11, .inl (cA, 16, .inl (fun _ => nI 0))), (q18, .inr (3, [.ref u24])), (u24, .inl (cA, 16, .inl (fun _ => nI 0))), (q31, .inr (3, [.ref u37])), (u37, .inl (cA, 40, .inl (fun _ => nI 0))), (q44, .inr (3, [.ref u50])), (u50, .inl (cA, 40, .inl (fun _ => nI 0))), (q57, .inr (3, [.ref u63])), (u63, .inl (cA, 40, .inl (fun _ => nI 0)))]) hx hb hT hown hK hP hD hS kw_X4 tyX4_ok nmX4 0 rfl rfl 4 (by decide) kf_X4_29 rfl rfl hin rfl (by decide +kernel) rfl rfl (Nat.le_of_ble_eq_true rfl) rfl dX4_init_66 (fun H locs hP hD hS => ?_)
  refine lv_aload_n hx hb dX4_init_69 rfl (lv_at hl 0 rfl) ?_
  refine q_new (N := 1) (ci := 3) hx hb hT hown kw_X3 tyX3 tyX3_ok kx_X4_9 kn_X3 ki_OfficeholdersRoll_Row hK hP hD hS hA rfl [.null] q_fs_X3 (Nat.le_of_ble_eq_true rfl) (Nat.le_of_ble_eq_true rfl) dX4_init_70 (fun q70 H hP hD hS => ?_)
  refine W.widen (k := 11) (n := 158) (by omega) (by omega) ?_
  refine lv_dup hx hb dX4_init_73 rfl ?_
  refine lv_bipush (v := nI 16) hx hb dX4_init_74 (by decide +kernel) ?_
  refine q_callN (As := [.int (nI 16)]) (mc := 1) (ms := 16) hx hb hml hown hT hX hK hP hD hS hA (c_X3_init l D cA q70 16 (by omega)) k_X3_init kl_X4_11 hl rfl rfl (Nat.le_of_ble_eq_true rfl) ⟨⟨rfl, rfl⟩, Nat.le_of_ble_eq_true rfl, Nat.le_of_ble_eq_true rfl⟩ ⟨Nat.le_of_ble_eq_true rfl, Nat.le_of_ble_eq_true rfl⟩ dX4_init_76 (fun u76 H locs hu76 hP2 hD2 hS2 => ?_)
  refine W.widen (k := 12) (n := 174) (by omega) (by omega) ?_
  have hS := hS2
  have hP : va_P D vwCl [(a, .inr (4, [.ref q5, .ref q18, .ref q31, .ref q44, .ref q57, .null, .null, .null, .null, .null, .int 0])), (q5, .inr (3, [.ref u11])), (u11, .inl (cA, 16, .inl (fun _ => nI 0))), (q18, .inr (3, [.ref u24])), (u24, .inl (cA, 16, .inl (fun _ => nI 0))), (q31, .inr (3, [.ref u37])), (u37, .inl (cA, 40, .inl (fun _ => nI 0))), (q44, .inr (3, [.ref u50])), (u50, .inl (cA, 40, .inl (fun _ => nI 0))), (q57, .inr (3, [.ref u63])), (u63, .inl (cA, 40, .inl (fun _ => nI 0))), (q70, .inr (3, [.ref u76])), (u76, .inl (cA, 16, .inl (fun _ => nI 0)))] H := hP2
  have hD : va_D A [(a, .inr (4, [.ref q5, .ref q18, .ref q31, .ref q44, .ref q57, .null, .null, .null, .null, .null, .int 0])), (q5, .inr (3, [.ref u11])), (u11, .inl (cA, 16, .inl (fun _ => nI 0))), (q18, .inr (3, [.ref u24])), (u24, .inl (cA, 16, .inl (fun _ => nI 0))), (q31, .inr (3, [.ref u37])), (u37, .inl (cA, 40, .inl (fun _ => nI 0))), (q44, .inr (3, [.ref u50])), (u50, .inl (cA, 40, .inl (fun _ => nI 0))), (q57, .inr (3, [.ref u63])), (u63, .inl (cA, 40, .inl (fun _ => nI 0))), (q70, .inr (3, [.ref u76])), (u76, .inl (cA, 16, .inl (fun _ => nI 0)))] := hD2
  refine q_putF (ty := (.object "OfficeholdersRoll$Row")) (ws1 := [(a, .inr (4, [.ref q5, .ref q18, .ref q31, .ref q44, .ref q57, .ref q70, .null, .null, .null, .null, .int 0])), (q5, .inr (3, [.ref u11])), (u11, .inl (cA, 16, .inl (fun _ => nI 0))), (q18, .inr (3, [.ref u24])), (u24, .inl (cA, 16, .inl (fun _ => nI 0))), (q31, .inr (3, [.ref u37])), (u37, .inl (cA, 40, .inl (fun _ => nI 0))), (q44, .inr (3, [.ref u50])), (u50, .inl (cA, 40, .inl (fun _ => nI 0))), (q57, .inr (3, [.ref u63])), (u63, .inl (cA, 40, .inl (fun _ => nI 0))), (q70, .inr (3, [.ref u76])), (u76, .inl (cA, 16, .inl (fun _ => nI 0)))]) hx hb hT hown hK hP hD hS kw_X4 tyX4_ok nmX4 0 rfl rfl 5 (by decide) kf_X4_32 rfl rfl hin rfl (by decide +kernel) rfl rfl (Nat.le_of_ble_eq_true rfl) rfl dX4_init_79 (fun H locs hP hD hS => ?_)
  refine lv_aload_n hx hb dX4_init_82 rfl (lv_at hl 0 rfl) ?_
  refine q_new (N := 1) (ci := 3) hx hb hT hown kw_X3 tyX3 tyX3_ok kx_X4_9 kn_X3 ki_OfficeholdersRoll_Row hK hP hD hS hA rfl [.null] q_fs_X3 (Nat.le_of_ble_eq_true rfl) (Nat.le_of_ble_eq_true rfl) dX4_init_83 (fun q83 H hP hD hS => ?_)
  refine W.widen (k := 13) (n := 175) (by omega) (by omega) ?_
  refine lv_dup hx hb dX4_init_86 rfl ?_
  refine lv_bipush (v := nI 16) hx hb dX4_init_87 (by decide +kernel) ?_
  refine q_callN (As := [.int (nI 16)]) (mc := 1) (ms := 16) hx hb hml hown hT hX hK hP hD hS hA (c_X3_init l D cA q83 16 (by omega)) k_X3_init kl_X4_11 hl rfl rfl (Nat.le_of_ble_eq_true rfl) ⟨⟨rfl, rfl⟩, Nat.le_of_ble_eq_true rfl, Nat.le_of_ble_eq_true rfl⟩ ⟨Nat.le_of_ble_eq_true rfl, Nat.le_of_ble_eq_true rfl⟩ dX4_init_89 (fun u89 H locs hu89 hP2 hD2 hS2 => ?_)
  refine W.widen (k := 14) (n := 191) (by omega) (by omega) ?_
  have hS := hS2
  have hP : va_P D vwCl [(a, .inr (4, [.ref q5, .ref q18, .ref q31, .ref q44, .ref q57, .ref q70, .null, .null, .null, .null, .int 0])), (q5, .inr (3, [.ref u11])), (u11, .inl (cA, 16, .inl (fun _ => nI 0))), (q18, .inr (3, [.ref u24])), (u24, .inl (cA, 16, .inl (fun _ => nI 0))), (q31, .inr (3, [.ref u37])), (u37, .inl (cA, 40, .inl (fun _ => nI 0))), (q44, .inr (3, [.ref u50])), (u50, .inl (cA, 40, .inl (fun _ => nI 0))), (q57, .inr (3, [.ref u63])), (u63, .inl (cA, 40, .inl (fun _ => nI 0))), (q70, .inr (3, [.ref u76])), (u76, .inl (cA, 16, .inl (fun _ => nI 0))), (q83, .inr (3, [.ref u89])), (u89, .inl (cA, 16, .inl (fun _ => nI 0)))] H := hP2
  have hD : va_D A [(a, .inr (4, [.ref q5, .ref q18, .ref q31, .ref q44, .ref q57, .ref q70, .null, .null, .null, .null, .int 0])), (q5, .inr (3, [.ref u11])), (u11, .inl (cA, 16, .inl (fun _ => nI 0))), (q18, .inr (3, [.ref u24])), (u24, .inl (cA, 16, .inl (fun _ => nI 0))), (q31, .inr (3, [.ref u37])), (u37, .inl (cA, 40, .inl (fun _ => nI 0))), (q44, .inr (3, [.ref u50])), (u50, .inl (cA, 40, .inl (fun _ => nI 0))), (q57, .inr (3, [.ref u63])), (u63, .inl (cA, 40, .inl (fun _ => nI 0))), (q70, .inr (3, [.ref u76])), (u76, .inl (cA, 16, .inl (fun _ => nI 0))), (q83, .inr (3, [.ref u89])), (u89, .inl (cA, 16, .inl (fun _ => nI 0)))] := hD2
  refine q_putF (ty := (.object "OfficeholdersRoll$Row")) (ws1 := [(a, .inr (4, [.ref q5, .ref q18, .ref q31, .ref q44, .ref q57, .ref q70, .ref q83, .null, .null, .null, .int 0])), (q5, .inr (3, [.ref u11])), (u11, .inl (cA, 16, .inl (fun _ => nI 0))), (q18, .inr (3, [.ref u24])), (u24, .inl (cA, 16, .inl (fun _ => nI 0))), (q31, .inr (3, [.ref u37])), (u37, .inl (cA, 40, .inl (fun _ => nI 0))), (q44, .inr (3, [.ref u50])), (u50, .inl (cA, 40, .inl (fun _ => nI 0))), (q57, .inr (3, [.ref u63])), (u63, .inl (cA, 40, .inl (fun _ => nI 0))), (q70, .inr (3, [.ref u76])), (u76, .inl (cA, 16, .inl (fun _ => nI 0))), (q83, .inr (3, [.ref u89])), (u89, .inl (cA, 16, .inl (fun _ => nI 0)))]) hx hb hT hown hK hP hD hS kw_X4 tyX4_ok nmX4 0 rfl rfl 6 (by decide) kf_X4_35 rfl rfl hin rfl (by decide +kernel) rfl rfl (Nat.le_of_ble_eq_true rfl) rfl dX4_init_92 (fun H locs hP hD hS => ?_)
  refine lv_aload_n hx hb dX4_init_95 rfl (lv_at hl 0 rfl) ?_
  refine q_new (N := 1) (ci := 3) hx hb hT hown kw_X3 tyX3 tyX3_ok kx_X4_9 kn_X3 ki_OfficeholdersRoll_Row hK hP hD hS hA rfl [.null] q_fs_X3 (Nat.le_of_ble_eq_true rfl) (Nat.le_of_ble_eq_true rfl) dX4_init_96 (fun q96 H hP hD hS => ?_)
  refine W.widen (k := 15) (n := 192) (by omega) (by omega) ?_
  refine lv_dup hx hb dX4_init_99 rfl ?_
  refine lv_bipush (v := nI 16) hx hb dX4_init_100 (by decide +kernel) ?_
  refine q_callN (As := [.int (nI 16)]) (mc := 1) (ms := 16) hx hb hml hown hT hX hK hP hD hS hA (c_X3_init l D cA q96 16 (by omega)) k_X3_init kl_X4_11 hl rfl rfl (Nat.le_of_ble_eq_true rfl) ⟨⟨rfl, rfl⟩, Nat.le_of_ble_eq_true rfl, Nat.le_of_ble_eq_true rfl⟩ ⟨Nat.le_of_ble_eq_true rfl, Nat.le_of_ble_eq_true rfl⟩ dX4_init_102 (fun u102 H locs hu102 hP2 hD2 hS2 => ?_)
  refine W.widen (k := 16) (n := 208) (by omega) (by omega) ?_
  have hS := hS2
  have hP : va_P D vwCl [(a, .inr (4, [.ref q5, .ref q18, .ref q31, .ref q44, .ref q57, .ref q70, .ref q83, .null, .null, .null, .int 0])), (q5, .inr (3, [.ref u11])), (u11, .inl (cA, 16, .inl (fun _ => nI 0))), (q18, .inr (3, [.ref u24])), (u24, .inl (cA, 16, .inl (fun _ => nI 0))), (q31, .inr (3, [.ref u37])), (u37, .inl (cA, 40, .inl (fun _ => nI 0))), (q44, .inr (3, [.ref u50])), (u50, .inl (cA, 40, .inl (fun _ => nI 0))), (q57, .inr (3, [.ref u63])), (u63, .inl (cA, 40, .inl (fun _ => nI 0))), (q70, .inr (3, [.ref u76])), (u76, .inl (cA, 16, .inl (fun _ => nI 0))), (q83, .inr (3, [.ref u89])), (u89, .inl (cA, 16, .inl (fun _ => nI 0))), (q96, .inr (3, [.ref u102])), (u102, .inl (cA, 16, .inl (fun _ => nI 0)))] H := hP2
  have hD : va_D A [(a, .inr (4, [.ref q5, .ref q18, .ref q31, .ref q44, .ref q57, .ref q70, .ref q83, .null, .null, .null, .int 0])), (q5, .inr (3, [.ref u11])), (u11, .inl (cA, 16, .inl (fun _ => nI 0))), (q18, .inr (3, [.ref u24])), (u24, .inl (cA, 16, .inl (fun _ => nI 0))), (q31, .inr (3, [.ref u37])), (u37, .inl (cA, 40, .inl (fun _ => nI 0))), (q44, .inr (3, [.ref u50])), (u50, .inl (cA, 40, .inl (fun _ => nI 0))), (q57, .inr (3, [.ref u63])), (u63, .inl (cA, 40, .inl (fun _ => nI 0))), (q70, .inr (3, [.ref u76])), (u76, .inl (cA, 16, .inl (fun _ => nI 0))), (q83, .inr (3, [.ref u89])), (u89, .inl (cA, 16, .inl (fun _ => nI 0))), (q96, .inr (3, [.ref u102])), (u102, .inl (cA, 16, .inl (fun _ => nI 0)))] := hD2
  refine q_putF (ty := (.object "OfficeholdersRoll$Row")) (ws1 := [(a, .inr (4, [.ref q5, .ref q18, .ref q31, .ref q44, .ref q57, .ref q70, .ref q83, .ref q96, .null, .null, .int 0])), (q5, .inr (3, [.ref u11])), (u11, .inl (cA, 16, .inl (fun _ => nI 0))), (q18, .inr (3, [.ref u24])), (u24, .inl (cA, 16, .inl (fun _ => nI 0))), (q31, .inr (3, [.ref u37])), (u37, .inl (cA, 40, .inl (fun _ => nI 0))), (q44, .inr (3, [.ref u50])), (u50, .inl (cA, 40, .inl (fun _ => nI 0))), (q57, .inr (3, [.ref u63])), (u63, .inl (cA, 40, .inl (fun _ => nI 0))), (q70, .inr (3, [.ref u76])), (u76, .inl (cA, 16, .inl (fun _ => nI 0))), (q83, .inr (3, [.ref u89])), (u89, .inl (cA, 16, .inl (fun _ => nI 0))), (q96, .inr (3, [.ref u102])), (u102, .inl (cA, 16, .inl (fun _ => nI 0)))]) hx hb hT hown hK hP hD hS kw_X4 tyX4_ok nmX4 0 rfl rfl 7 (by decide) kf_X4_38 rfl rfl hin rfl (by decide +kernel) rfl rfl (Nat.le_of_ble_eq_true rfl) rfl dX4_init_105 (fun H locs hP hD hS => ?_)
  refine lv_aload_n hx hb dX4_init_108 rfl (lv_at hl 0 rfl) ?_
  refine q_new (N := 1) (ci := 3) hx hb hT hown kw_X3 tyX3 tyX3_ok kx_X4_9 kn_X3 ki_OfficeholdersRoll_Row hK hP hD hS hA rfl [.null] q_fs_X3 (Nat.le_of_ble_eq_true rfl) (Nat.le_of_ble_eq_true rfl) dX4_init_109 (fun q109 H hP hD hS => ?_)
  refine W.widen (k := 17) (n := 209) (by omega) (by omega) ?_
  refine lv_dup hx hb dX4_init_112 rfl ?_
  refine lv_bipush (v := nI 16) hx hb dX4_init_113 (by decide +kernel) ?_
  refine q_callN (As := [.int (nI 16)]) (mc := 1) (ms := 16) hx hb hml hown hT hX hK hP hD hS hA (c_X3_init l D cA q109 16 (by omega)) k_X3_init kl_X4_11 hl rfl rfl (Nat.le_of_ble_eq_true rfl) ⟨⟨rfl, rfl⟩, Nat.le_of_ble_eq_true rfl, Nat.le_of_ble_eq_true rfl⟩ ⟨Nat.le_of_ble_eq_true rfl, Nat.le_of_ble_eq_true rfl⟩ dX4_init_115 (fun u115 H locs hu115 hP2 hD2 hS2 => ?_)
  refine W.widen (k := 18) (n := 225) (by omega) (by omega) ?_
  have hS := hS2
  have hP : va_P D vwCl [(a, .inr (4, [.ref q5, .ref q18, .ref q31, .ref q44, .ref q57, .ref q70, .ref q83, .ref q96, .null, .null, .int 0])), (q5, .inr (3, [.ref u11])), (u11, .inl (cA, 16, .inl (fun _ => nI 0))), (q18, .inr (3, [.ref u24])), (u24, .inl (cA, 16, .inl (fun _ => nI 0))), (q31, .inr (3, [.ref u37])), (u37, .inl (cA, 40, .inl (fun _ => nI 0))), (q44, .inr (3, [.ref u50])), (u50, .inl (cA, 40, .inl (fun _ => nI 0))), (q57, .inr (3, [.ref u63])), (u63, .inl (cA, 40, .inl (fun _ => nI 0))), (q70, .inr (3, [.ref u76])), (u76, .inl (cA, 16, .inl (fun _ => nI 0))), (q83, .inr (3, [.ref u89])), (u89, .inl (cA, 16, .inl (fun _ => nI 0))), (q96, .inr (3, [.ref u102])), (u102, .inl (cA, 16, .inl (fun _ => nI 0))), (q109, .inr (3, [.ref u115])), (u115, .inl (cA, 16, .inl (fun _ => nI 0)))] H := hP2
  have hD : va_D A [(a, .inr (4, [.ref q5, .ref q18, .ref q31, .ref q44, .ref q57, .ref q70, .ref q83, .ref q96, .null, .null, .int 0])), (q5, .inr (3, [.ref u11])), (u11, .inl (cA, 16, .inl (fun _ => nI 0))), (q18, .inr (3, [.ref u24])), (u24, .inl (cA, 16, .inl (fun _ => nI 0))), (q31, .inr (3, [.ref u37])), (u37, .inl (cA, 40, .inl (fun _ => nI 0))), (q44, .inr (3, [.ref u50])), (u50, .inl (cA, 40, .inl (fun _ => nI 0))), (q57, .inr (3, [.ref u63])), (u63, .inl (cA, 40, .inl (fun _ => nI 0))), (q70, .inr (3, [.ref u76])), (u76, .inl (cA, 16, .inl (fun _ => nI 0))), (q83, .inr (3, [.ref u89])), (u89, .inl (cA, 16, .inl (fun _ => nI 0))), (q96, .inr (3, [.ref u102])), (u102, .inl (cA, 16, .inl (fun _ => nI 0))), (q109, .inr (3, [.ref u115])), (u115, .inl (cA, 16, .inl (fun _ => nI 0)))] := hD2
  refine q_putF (ty := (.object "OfficeholdersRoll$Row")) (ws1 := [(a, .inr (4, [.ref q5, .ref q18, .ref q31, .ref q44, .ref q57, .ref q70, .ref q83, .ref q96, .ref q109, .null, .int 0])), (q5, .inr (3, [.ref u11])), (u11, .inl (cA, 16, .inl (fun _ => nI 0))), (q18, .inr (3, [.ref u24])), (u24, .inl (cA, 16, .inl (fun _ => nI 0))), (q31, .inr (3, [.ref u37])), (u37, .inl (cA, 40, .inl (fun _ => nI 0))), (q44, .inr (3, [.ref u50])), (u50, .inl (cA, 40, .inl (fun _ => nI 0))), (q57, .inr (3, [.ref u63])), (u63, .inl (cA, 40, .inl (fun _ => nI 0))), (q70, .inr (3, [.ref u76])), (u76, .inl (cA, 16, .inl (fun _ => nI 0))), (q83, .inr (3, [.ref u89])), (u89, .inl (cA, 16, .inl (fun _ => nI 0))), (q96, .inr (3, [.ref u102])), (u102, .inl (cA, 16, .inl (fun _ => nI 0))), (q109, .inr (3, [.ref u115])), (u115, .inl (cA, 16, .inl (fun _ => nI 0)))]) hx hb hT hown hK hP hD hS kw_X4 tyX4_ok nmX4 0 rfl rfl 8 (by decide) kf_X4_41 rfl rfl hin rfl (by decide +kernel) rfl rfl (Nat.le_of_ble_eq_true rfl) rfl dX4_init_118 (fun H locs hP hD hS => ?_)
  refine lv_aload_n hx hb dX4_init_121 rfl (lv_at hl 0 rfl) ?_
  refine q_new (N := 1) (ci := 3) hx hb hT hown kw_X3 tyX3 tyX3_ok kx_X4_9 kn_X3 ki_OfficeholdersRoll_Row hK hP hD hS hA rfl [.null] q_fs_X3 (Nat.le_of_ble_eq_true rfl) (Nat.le_of_ble_eq_true rfl) dX4_init_122 (fun q122 H hP hD hS => ?_)
  refine W.widen (k := 19) (n := 226) (by omega) (by omega) ?_
  refine lv_dup hx hb dX4_init_125 rfl ?_
  refine lv_sipush (v := nI 256) hx hb dX4_init_126 (by decide +kernel) ?_
  refine q_callN (As := [.int (nI 256)]) (mc := 1) (ms := 256) hx hb hml hown hT hX hK hP hD hS hA (c_X3_init l D cA q122 256 (by omega)) k_X3_init kl_X4_11 hl rfl rfl (Nat.le_of_ble_eq_true rfl) ⟨⟨rfl, rfl⟩, Nat.le_of_ble_eq_true rfl, Nat.le_of_ble_eq_true rfl⟩ ⟨Nat.le_of_ble_eq_true rfl, Nat.le_of_ble_eq_true rfl⟩ dX4_init_129 (fun u129 H locs hu129 hP2 hD2 hS2 => ?_)
  refine W.widen (k := 20) (n := 482) (by omega) (by omega) ?_
  have hS := hS2
  have hP : va_P D vwCl [(a, .inr (4, [.ref q5, .ref q18, .ref q31, .ref q44, .ref q57, .ref q70, .ref q83, .ref q96, .ref q109, .null, .int 0])), (q5, .inr (3, [.ref u11])), (u11, .inl (cA, 16, .inl (fun _ => nI 0))), (q18, .inr (3, [.ref u24])), (u24, .inl (cA, 16, .inl (fun _ => nI 0))), (q31, .inr (3, [.ref u37])), (u37, .inl (cA, 40, .inl (fun _ => nI 0))), (q44, .inr (3, [.ref u50])), (u50, .inl (cA, 40, .inl (fun _ => nI 0))), (q57, .inr (3, [.ref u63])), (u63, .inl (cA, 40, .inl (fun _ => nI 0))), (q70, .inr (3, [.ref u76])), (u76, .inl (cA, 16, .inl (fun _ => nI 0))), (q83, .inr (3, [.ref u89])), (u89, .inl (cA, 16, .inl (fun _ => nI 0))), (q96, .inr (3, [.ref u102])), (u102, .inl (cA, 16, .inl (fun _ => nI 0))), (q109, .inr (3, [.ref u115])), (u115, .inl (cA, 16, .inl (fun _ => nI 0))), (q122, .inr (3, [.ref u129])), (u129, .inl (cA, 256, .inl (fun _ => nI 0)))] H := hP2
  have hD : va_D A [(a, .inr (4, [.ref q5, .ref q18, .ref q31, .ref q44, .ref q57, .ref q70, .ref q83, .ref q96, .ref q109, .null, .int 0])), (q5, .inr (3, [.ref u11])), (u11, .inl (cA, 16, .inl (fun _ => nI 0))), (q18, .inr (3, [.ref u24])), (u24, .inl (cA, 16, .inl (fun _ => nI 0))), (q31, .inr (3, [.ref u37])), (u37, .inl (cA, 40, .inl (fun _ => nI 0))), (q44, .inr (3, [.ref u50])), (u50, .inl (cA, 40, .inl (fun _ => nI 0))), (q57, .inr (3, [.ref u63])), (u63, .inl (cA, 40, .inl (fun _ => nI 0))), (q70, .inr (3, [.ref u76])), (u76, .inl (cA, 16, .inl (fun _ => nI 0))), (q83, .inr (3, [.ref u89])), (u89, .inl (cA, 16, .inl (fun _ => nI 0))), (q96, .inr (3, [.ref u102])), (u102, .inl (cA, 16, .inl (fun _ => nI 0))), (q109, .inr (3, [.ref u115])), (u115, .inl (cA, 16, .inl (fun _ => nI 0))), (q122, .inr (3, [.ref u129])), (u129, .inl (cA, 256, .inl (fun _ => nI 0)))] := hD2
  refine q_putF (ty := (.object "OfficeholdersRoll$Row")) (ws1 := [(a, .inr (4, [.ref q5, .ref q18, .ref q31, .ref q44, .ref q57, .ref q70, .ref q83, .ref q96, .ref q109, .ref q122, .int 0])), (q5, .inr (3, [.ref u11])), (u11, .inl (cA, 16, .inl (fun _ => nI 0))), (q18, .inr (3, [.ref u24])), (u24, .inl (cA, 16, .inl (fun _ => nI 0))), (q31, .inr (3, [.ref u37])), (u37, .inl (cA, 40, .inl (fun _ => nI 0))), (q44, .inr (3, [.ref u50])), (u50, .inl (cA, 40, .inl (fun _ => nI 0))), (q57, .inr (3, [.ref u63])), (u63, .inl (cA, 40, .inl (fun _ => nI 0))), (q70, .inr (3, [.ref u76])), (u76, .inl (cA, 16, .inl (fun _ => nI 0))), (q83, .inr (3, [.ref u89])), (u89, .inl (cA, 16, .inl (fun _ => nI 0))), (q96, .inr (3, [.ref u102])), (u102, .inl (cA, 16, .inl (fun _ => nI 0))), (q109, .inr (3, [.ref u115])), (u115, .inl (cA, 16, .inl (fun _ => nI 0))), (q122, .inr (3, [.ref u129])), (u129, .inl (cA, 256, .inl (fun _ => nI 0)))]) hx hb hT hown hK hP hD hS kw_X4 tyX4_ok nmX4 0 rfl rfl 9 (by decide) kf_X4_44 rfl rfl hin rfl (by decide +kernel) rfl rfl (Nat.le_of_ble_eq_true rfl) rfl dX4_init_132 (fun H locs hP hD hS => ?_)
  refine lv_aload_n hx hb dX4_init_135 rfl (lv_at hl 0 rfl) ?_
  refine q_get hx hb hT hown hK hP kw_X4 0 rfl rfl 1 (by decide) kf_X4_20 rfl (v := .ref q18) rfl dX4_init_136 ?_
  refine lv_sipush (v := nI 999) hx hb dX4_init_139 (by decide +kernel) ?_
  refine q_callV (As := [.int (nI 999)]) (wc := rowW cA q18 u24 16 (fun _ => nI 0)) (w1 := rowW cA q18 u24 16 (fun _ => nI 999)) (ws1 := [(a, .inr (4, [.ref q5, .ref q18, .ref q31, .ref q44, .ref q57, .ref q70, .ref q83, .ref q96, .ref q109, .ref q122, .int 0])), (q5, .inr (3, [.ref u11])), (u11, .inl (cA, 16, .inl (fun _ => nI 0))), (q18, .inr (3, [.ref u24])), (u24, .inl (cA, 16, .inl (fun _ => nI 999))), (q31, .inr (3, [.ref u37])), (u37, .inl (cA, 40, .inl (fun _ => nI 0))), (q44, .inr (3, [.ref u50])), (u50, .inl (cA, 40, .inl (fun _ => nI 0))), (q57, .inr (3, [.ref u63])), (u63, .inl (cA, 40, .inl (fun _ => nI 0))), (q70, .inr (3, [.ref u76])), (u76, .inl (cA, 16, .inl (fun _ => nI 0))), (q83, .inr (3, [.ref u89])), (u89, .inl (cA, 16, .inl (fun _ => nI 0))), (q96, .inr (3, [.ref u102])), (u102, .inl (cA, 16, .inl (fun _ => nI 0))), (q109, .inr (3, [.ref u115])), (u115, .inl (cA, 16, .inl (fun _ => nI 0))), (q122, .inr (3, [.ref u129])), (u129, .inl (cA, 256, .inl (fun _ => nI 0)))]) hx hb hml hown hT hK hP hD hS hA (c_X3_fill l D cA q18 u24 16 (fun _ => nI 0) (nI 999) (by omega)) k_X3_fill kl_X4_47 (q0 := 0) rfl rfl rfl [3, 4] rfl rfl rfl rfl hl rfl rfl (Nat.le_of_ble_eq_true rfl) ⟨⟨rfl, rfl⟩, Nat.le_of_ble_eq_true rfl, Nat.le_of_ble_eq_true rfl⟩ ⟨Nat.le_of_ble_eq_true rfl, Nat.le_of_ble_eq_true rfl⟩ dX4_init_142 (fun H locs hP hD hS => ?_)
  refine lv_aload_n hx hb dX4_init_145 rfl (lv_at hl 0 rfl) ?_
  refine q_get hx hb hT hown hK hP kw_X4 0 rfl rfl 6 (by decide) kf_X4_35 rfl (v := .ref q83) rfl dX4_init_146 ?_
  refine lv_sipush (v := nI 999) hx hb dX4_init_149 (by decide +kernel) ?_
  refine q_callV (As := [.int (nI 999)]) (wc := rowW cA q83 u89 16 (fun _ => nI 0)) (w1 := rowW cA q83 u89 16 (fun _ => nI 999)) (ws1 := [(a, .inr (4, [.ref q5, .ref q18, .ref q31, .ref q44, .ref q57, .ref q70, .ref q83, .ref q96, .ref q109, .ref q122, .int 0])), (q5, .inr (3, [.ref u11])), (u11, .inl (cA, 16, .inl (fun _ => nI 0))), (q18, .inr (3, [.ref u24])), (u24, .inl (cA, 16, .inl (fun _ => nI 999))), (q31, .inr (3, [.ref u37])), (u37, .inl (cA, 40, .inl (fun _ => nI 0))), (q44, .inr (3, [.ref u50])), (u50, .inl (cA, 40, .inl (fun _ => nI 0))), (q57, .inr (3, [.ref u63])), (u63, .inl (cA, 40, .inl (fun _ => nI 0))), (q70, .inr (3, [.ref u76])), (u76, .inl (cA, 16, .inl (fun _ => nI 0))), (q83, .inr (3, [.ref u89])), (u89, .inl (cA, 16, .inl (fun _ => nI 999))), (q96, .inr (3, [.ref u102])), (u102, .inl (cA, 16, .inl (fun _ => nI 0))), (q109, .inr (3, [.ref u115])), (u115, .inl (cA, 16, .inl (fun _ => nI 0))), (q122, .inr (3, [.ref u129])), (u129, .inl (cA, 256, .inl (fun _ => nI 0)))]) hx hb hml hown hT hK hP hD hS hA (c_X3_fill l D cA q83 u89 16 (fun _ => nI 0) (nI 999) (by omega)) k_X3_fill kl_X4_47 (q0 := 0) rfl rfl rfl [13, 14] rfl rfl rfl rfl hl rfl rfl (Nat.le_of_ble_eq_true rfl) ⟨⟨rfl, rfl⟩, Nat.le_of_ble_eq_true rfl, Nat.le_of_ble_eq_true rfl⟩ ⟨Nat.le_of_ble_eq_true rfl, Nat.le_of_ble_eq_true rfl⟩ dX4_init_152 (fun H locs hP hD hS => ?_)
  exact q_nret (u := fun k => List.getD [0, 0, 0, 0, 0, 0, 0, 0, 0, 0, 0, 0, q5, q18, q31, q44, q57, q70, q83, q96, q109, q122, 0, 0, 0, 0, 0, 0, 0, 0, 0, 0, 0, 0, 0, 0, 0, 0, 0, 0, 0, 0, u11, u24, u37, u50, u63, u76, u89, u102, u115, u129, 0, 0, 0, 0, 0, 0, 0, 0, 0, 0, 0, 0, 0, 0, 0, 0, 0, 0, 0, a] k 0) hx hb hr hlk rfl hP hD hS dX4_init_155
abbrev rm_X2_init : Room := { frames := 2, cells := 4, slots := 58, locals := 35 }
set_option maxRecDepth 100000 in
set_option maxHeartbeats 4000000 in
theorem c_X2_init (l : Launch) (D : va_G) (cA : ClassId) (a : Nat)   : q_CN l yX2_init [Cond.code yX2_init cX2_init 1 none] (rm_X2_init) D cA [.ref a] [(a, .inr (2, [.null, .null, .int 0]))] (fun u : Nat → Nat => u 72 = a) (fun u => psW cA u (fun _ _ => nI 0) (fun _ => 0)) 4 (58) := by
  refine q_startN RX2 (by decide +kernel) rfl rfl (Nat.le_of_ble_eq_true rfl) ?_
  intro p e s m below meth c A args H locs ls hx hb hr hml hown hT hlk hP hK hD hA hS hl hX hin
  have hl : lv_has ls 1 [(0, .ref a)] := hl
  refine lv_aload_n hx hb dX2_init_0 rfl (lv_at hl 0 rfl) ?_
  refine q_oinit hx hb hml hown hT hl kl_X2_3 ⟨Nat.le_of_ble_eq_true rfl, Nat.le_of_ble_eq_true rfl⟩ dX2_init_1 ?_
  refine lv_aload_n hx hb dX2_init_4 rfl (lv_at hl 0 rfl) ?_
  refine q_new (N := 1) (ci := 3) hx hb hT hown kw_X3 tyX3 tyX3_ok kx_X2_9 kn_X3 ki_OfficeholdersRoll_Row hK hP hD hS hA rfl [.null] q_fs_X3 (Nat.le_of_ble_eq_true rfl) (Nat.le_of_ble_eq_true rfl) dX2_init_5 (fun q5 H hP hD hS => ?_)
  refine W.widen (k := 1) (n := 1) (by omega) (by omega) ?_
  refine lv_dup hx hb dX2_init_8 rfl ?_
  refine lv_bipush (v := nI 16) hx hb dX2_init_9 (by decide +kernel) ?_
  refine q_callN (As := [.int (nI 16)]) (mc := 1) (ms := 16) hx hb hml hown hT hX hK hP hD hS hA (c_X3_init l D cA q5 16 (by omega)) k_X3_init kl_X2_11 hl rfl rfl (Nat.le_of_ble_eq_true rfl) ⟨⟨rfl, rfl⟩, Nat.le_of_ble_eq_true rfl, Nat.le_of_ble_eq_true rfl⟩ ⟨Nat.le_of_ble_eq_true rfl, Nat.le_of_ble_eq_true rfl⟩ dX2_init_11 (fun u11 H locs hu11 hP2 hD2 hS2 => ?_)
  refine W.widen (k := 2) (n := 17) (by omega) (by omega) ?_
  have hS := hS2
  have hP : va_P D vwCl [(a, .inr (2, [.null, .null, .int 0])), (q5, .inr (3, [.ref u11])), (u11, .inl (cA, 16, .inl (fun _ => nI 0)))] H := hP2
  have hD : va_D A [(a, .inr (2, [.null, .null, .int 0])), (q5, .inr (3, [.ref u11])), (u11, .inl (cA, 16, .inl (fun _ => nI 0)))] := hD2
  refine q_putF (ty := (.object "OfficeholdersRoll$Row")) (ws1 := [(a, .inr (2, [.ref q5, .null, .int 0])), (q5, .inr (3, [.ref u11])), (u11, .inl (cA, 16, .inl (fun _ => nI 0)))]) hx hb hT hown hK hP hD hS kw_X2 tyX2_ok nmX2 0 rfl rfl 0 (by decide) kf_X2_14 rfl rfl hin rfl (by decide +kernel) rfl rfl (Nat.le_of_ble_eq_true rfl) rfl dX2_init_14 (fun H locs hP hD hS => ?_)
  refine lv_aload_n hx hb dX2_init_17 rfl (lv_at hl 0 rfl) ?_
  refine q_new (N := 1) (ci := 3) hx hb hT hown kw_X3 tyX3 tyX3_ok kx_X2_9 kn_X3 ki_OfficeholdersRoll_Row hK hP hD hS hA rfl [.null] q_fs_X3 (Nat.le_of_ble_eq_true rfl) (Nat.le_of_ble_eq_true rfl) dX2_init_18 (fun q18 H hP hD hS => ?_)
  refine W.widen (k := 3) (n := 18) (by omega) (by omega) ?_
  refine lv_dup hx hb dX2_init_21 rfl ?_
  refine lv_bipush (v := nI 40) hx hb dX2_init_22 (by decide +kernel) ?_
  refine q_callN (As := [.int (nI 40)]) (mc := 1) (ms := 40) hx hb hml hown hT hX hK hP hD hS hA (c_X3_init l D cA q18 40 (by omega)) k_X3_init kl_X2_11 hl rfl rfl (Nat.le_of_ble_eq_true rfl) ⟨⟨rfl, rfl⟩, Nat.le_of_ble_eq_true rfl, Nat.le_of_ble_eq_true rfl⟩ ⟨Nat.le_of_ble_eq_true rfl, Nat.le_of_ble_eq_true rfl⟩ dX2_init_24 (fun u24 H locs hu24 hP2 hD2 hS2 => ?_)
  refine W.widen (k := 4) (n := 58) (by omega) (by omega) ?_
  have hS := hS2
  have hP : va_P D vwCl [(a, .inr (2, [.ref q5, .null, .int 0])), (q5, .inr (3, [.ref u11])), (u11, .inl (cA, 16, .inl (fun _ => nI 0))), (q18, .inr (3, [.ref u24])), (u24, .inl (cA, 40, .inl (fun _ => nI 0)))] H := hP2
  have hD : va_D A [(a, .inr (2, [.ref q5, .null, .int 0])), (q5, .inr (3, [.ref u11])), (u11, .inl (cA, 16, .inl (fun _ => nI 0))), (q18, .inr (3, [.ref u24])), (u24, .inl (cA, 40, .inl (fun _ => nI 0)))] := hD2
  refine q_putF (ty := (.object "OfficeholdersRoll$Row")) (ws1 := [(a, .inr (2, [.ref q5, .ref q18, .int 0])), (q5, .inr (3, [.ref u11])), (u11, .inl (cA, 16, .inl (fun _ => nI 0))), (q18, .inr (3, [.ref u24])), (u24, .inl (cA, 40, .inl (fun _ => nI 0)))]) hx hb hT hown hK hP hD hS kw_X2 tyX2_ok nmX2 0 rfl rfl 1 (by decide) kf_X2_20 rfl rfl hin rfl (by decide +kernel) rfl rfl (Nat.le_of_ble_eq_true rfl) rfl dX2_init_27 (fun H locs hP hD hS => ?_)
  exact q_nret (u := fun k => List.getD [0, 0, 0, 0, 0, 0, 0, 0, 0, 0, 0, 0, 0, 0, 0, 0, 0, 0, 0, 0, 0, 0, q5, q18, 0, 0, 0, 0, 0, 0, 0, 0, 0, 0, 0, 0, 0, 0, 0, 0, 0, 0, 0, 0, 0, 0, 0, 0, 0, 0, 0, 0, u11, u24, 0, 0, 0, 0, 0, 0, 0, 0, 0, 0, 0, 0, 0, 0, 0, 0, 0, 0, a] k 0) hx hb hr hlk rfl hP hD hS dX2_init_30
abbrev rm_X0_init : Room := { frames := 2, cells := 10, slots := 181, locals := 35 }
set_option maxRecDepth 100000 in
set_option maxHeartbeats 4000000 in
theorem c_X0_init (l : Launch) (D : va_G) (cA : ClassId) (a : Nat)   : q_CN l yX0_init [Cond.code yX0_init cX0_init 1 none] (rm_X0_init) D cA [.ref a] [(a, .inr (0, [.null, .null, .null, .null, .null, .int 0]))] (fun u : Nat → Nat => u 73 = a) (fun u => gpW cA u (fun _ _ => nI 0) (fun _ => 0)) 10 (181) := by
  refine q_startN RX0 (by decide +kernel) rfl rfl (Nat.le_of_ble_eq_true rfl) ?_
  intro p e s m below meth c A args H locs ls hx hb hr hml hown hT hlk hP hK hD hA hS hl hX hin
  have hl : lv_has ls 1 [(0, .ref a)] := hl
  refine lv_aload_n hx hb dX0_init_0 rfl (lv_at hl 0 rfl) ?_
  refine q_oinit hx hb hml hown hT hl kl_X0_3 ⟨Nat.le_of_ble_eq_true rfl, Nat.le_of_ble_eq_true rfl⟩ dX0_init_1 ?_
  refine lv_aload_n hx hb dX0_init_4 rfl (lv_at hl 0 rfl) ?_
  refine q_new (N := 1) (ci := 3) hx hb hT hown kw_X3 tyX3 tyX3_ok kx_X0_9 kn_X3 ki_OfficeholdersRoll_Row hK hP hD hS hA rfl [.null] q_fs_X3 (Nat.le_of_ble_eq_true rfl) (Nat.le_of_ble_eq_true rfl) dX0_init_5 (fun q5 H hP hD hS => ?_)
  refine W.widen (k := 1) (n := 1) (by omega) (by omega) ?_
  refine lv_dup hx hb dX0_init_8 rfl ?_
  refine lv_bipush (v := nI 6) hx hb dX0_init_9 (by decide +kernel) ?_
  refine q_callN (As := [.int (nI 6)]) (mc := 1) (ms := 6) hx hb hml hown hT hX hK hP hD hS hA (c_X3_init l D cA q5 6 (by omega)) k_X3_init kl_X0_11 hl rfl rfl (Nat.le_of_ble_eq_true rfl) ⟨⟨rfl, rfl⟩, Nat.le_of_ble_eq_true rfl, Nat.le_of_ble_eq_true rfl⟩ ⟨Nat.le_of_ble_eq_true rfl, Nat.le_of_ble_eq_true rfl⟩ dX0_init_11 (fun u11 H locs hu11 hP2 hD2 hS2 => ?_)
  refine W.widen (k := 2) (n := 7) (by omega) (by omega) ?_
  have hS := hS2
  have hP : va_P D vwCl [(a, .inr (0, [.null, .null, .null, .null, .null, .int 0])), (q5, .inr (3, [.ref u11])), (u11, .inl (cA, 6, .inl (fun _ => nI 0)))] H := hP2
  have hD : va_D A [(a, .inr (0, [.null, .null, .null, .null, .null, .int 0])), (q5, .inr (3, [.ref u11])), (u11, .inl (cA, 6, .inl (fun _ => nI 0)))] := hD2
  refine q_putF (ty := (.object "OfficeholdersRoll$Row")) (ws1 := [(a, .inr (0, [.ref q5, .null, .null, .null, .null, .int 0])), (q5, .inr (3, [.ref u11])), (u11, .inl (cA, 6, .inl (fun _ => nI 0)))]) hx hb hT hown hK hP hD hS kw_X0 tyX0_ok nmX0 0 rfl rfl 0 (by decide) kf_X0_14 rfl rfl hin rfl (by decide +kernel) rfl rfl (Nat.le_of_ble_eq_true rfl) rfl dX0_init_14 (fun H locs hP hD hS => ?_)
  refine lv_aload_n hx hb dX0_init_17 rfl (lv_at hl 0 rfl) ?_
  refine q_new (N := 1) (ci := 3) hx hb hT hown kw_X3 tyX3 tyX3_ok kx_X0_9 kn_X3 ki_OfficeholdersRoll_Row hK hP hD hS hA rfl [.null] q_fs_X3 (Nat.le_of_ble_eq_true rfl) (Nat.le_of_ble_eq_true rfl) dX0_init_18 (fun q18 H hP hD hS => ?_)
  refine W.widen (k := 3) (n := 8) (by omega) (by omega) ?_
  refine lv_dup hx hb dX0_init_21 rfl ?_
  refine lv_bipush (v := nI 36) hx hb dX0_init_22 (by decide +kernel) ?_
  refine q_callN (As := [.int (nI 36)]) (mc := 1) (ms := 36) hx hb hml hown hT hX hK hP hD hS hA (c_X3_init l D cA q18 36 (by omega)) k_X3_init kl_X0_11 hl rfl rfl (Nat.le_of_ble_eq_true rfl) ⟨⟨rfl, rfl⟩, Nat.le_of_ble_eq_true rfl, Nat.le_of_ble_eq_true rfl⟩ ⟨Nat.le_of_ble_eq_true rfl, Nat.le_of_ble_eq_true rfl⟩ dX0_init_24 (fun u24 H locs hu24 hP2 hD2 hS2 => ?_)
  refine W.widen (k := 4) (n := 44) (by omega) (by omega) ?_
  have hS := hS2
  have hP : va_P D vwCl [(a, .inr (0, [.ref q5, .null, .null, .null, .null, .int 0])), (q5, .inr (3, [.ref u11])), (u11, .inl (cA, 6, .inl (fun _ => nI 0))), (q18, .inr (3, [.ref u24])), (u24, .inl (cA, 36, .inl (fun _ => nI 0)))] H := hP2
  have hD : va_D A [(a, .inr (0, [.ref q5, .null, .null, .null, .null, .int 0])), (q5, .inr (3, [.ref u11])), (u11, .inl (cA, 6, .inl (fun _ => nI 0))), (q18, .inr (3, [.ref u24])), (u24, .inl (cA, 36, .inl (fun _ => nI 0)))] := hD2
  refine q_putF (ty := (.object "OfficeholdersRoll$Row")) (ws1 := [(a, .inr (0, [.ref q5, .ref q18, .null, .null, .null, .int 0])), (q5, .inr (3, [.ref u11])), (u11, .inl (cA, 6, .inl (fun _ => nI 0))), (q18, .inr (3, [.ref u24])), (u24, .inl (cA, 36, .inl (fun _ => nI 0)))]) hx hb hT hown hK hP hD hS kw_X0 tyX0_ok nmX0 0 rfl rfl 1 (by decide) kf_X0_20 rfl rfl hin rfl (by decide +kernel) rfl rfl (Nat.le_of_ble_eq_true rfl) rfl dX0_init_27 (fun H locs hP hD hS => ?_)
  refine lv_aload_n hx hb dX0_init_30 rfl (lv_at hl 0 rfl) ?_
  refine q_new (N := 1) (ci := 3) hx hb hT hown kw_X3 tyX3 tyX3_ok kx_X0_9 kn_X3 ki_OfficeholdersRoll_Row hK hP hD hS hA rfl [.null] q_fs_X3 (Nat.le_of_ble_eq_true rfl) (Nat.le_of_ble_eq_true rfl) dX0_init_31 (fun q31 H hP hD hS => ?_)
  refine W.widen (k := 5) (n := 45) (by omega) (by omega) ?_
  refine lv_dup hx hb dX0_init_34 rfl ?_
  refine lv_bipush (v := nI 64) hx hb dX0_init_35 (by decide +kernel) ?_
  refine q_callN (As := [.int (nI 64)]) (mc := 1) (ms := 64) hx hb hml hown hT hX hK hP hD hS hA (c_X3_init l D cA q31 64 (by omega)) k_X3_init kl_X0_11 hl rfl rfl (Nat.le_of_ble_eq_true rfl) ⟨⟨rfl, rfl⟩, Nat.le_of_ble_eq_true rfl, Nat.le_of_ble_eq_true rfl⟩ ⟨Nat.le_of_ble_eq_true rfl, Nat.le_of_ble_eq_true rfl⟩ dX0_init_37 (fun u37 H locs hu37 hP2 hD2 hS2 => ?_)
  refine W.widen (k := 6) (n := 109) (by omega) (by omega) ?_
  have hS := hS2
  have hP : va_P D vwCl [(a, .inr (0, [.ref q5, .ref q18, .null, .null, .null, .int 0])), (q5, .inr (3, [.ref u11])), (u11, .inl (cA, 6, .inl (fun _ => nI 0))), (q18, .inr (3, [.ref u24])), (u24, .inl (cA, 36, .inl (fun _ => nI 0))), (q31, .inr (3, [.ref u37])), (u37, .inl (cA, 64, .inl (fun _ => nI 0)))] H := hP2
  have hD : va_D A [(a, .inr (0, [.ref q5, .ref q18, .null, .null, .null, .int 0])), (q5, .inr (3, [.ref u11])), (u11, .inl (cA, 6, .inl (fun _ => nI 0))), (q18, .inr (3, [.ref u24])), (u24, .inl (cA, 36, .inl (fun _ => nI 0))), (q31, .inr (3, [.ref u37])), (u37, .inl (cA, 64, .inl (fun _ => nI 0)))] := hD2
  refine q_putF (ty := (.object "OfficeholdersRoll$Row")) (ws1 := [(a, .inr (0, [.ref q5, .ref q18, .ref q31, .null, .null, .int 0])), (q5, .inr (3, [.ref u11])), (u11, .inl (cA, 6, .inl (fun _ => nI 0))), (q18, .inr (3, [.ref u24])), (u24, .inl (cA, 36, .inl (fun _ => nI 0))), (q31, .inr (3, [.ref u37])), (u37, .inl (cA, 64, .inl (fun _ => nI 0)))]) hx hb hT hown hK hP hD hS kw_X0 tyX0_ok nmX0 0 rfl rfl 2 (by decide) kf_X0_23 rfl rfl hin rfl (by decide +kernel) rfl rfl (Nat.le_of_ble_eq_true rfl) rfl dX0_init_40 (fun H locs hP hD hS => ?_)
  refine lv_aload_n hx hb dX0_init_43 rfl (lv_at hl 0 rfl) ?_
  refine q_new (N := 1) (ci := 3) hx hb hT hown kw_X3 tyX3 tyX3_ok kx_X0_9 kn_X3 ki_OfficeholdersRoll_Row hK hP hD hS hA rfl [.null] q_fs_X3 (Nat.le_of_ble_eq_true rfl) (Nat.le_of_ble_eq_true rfl) dX0_init_44 (fun q44 H hP hD hS => ?_)
  refine W.widen (k := 7) (n := 110) (by omega) (by omega) ?_
  refine lv_dup hx hb dX0_init_47 rfl ?_
  refine lv_bipush (v := nI 64) hx hb dX0_init_48 (by decide +kernel) ?_
  refine q_callN (As := [.int (nI 64)]) (mc := 1) (ms := 64) hx hb hml hown hT hX hK hP hD hS hA (c_X3_init l D cA q44 64 (by omega)) k_X3_init kl_X0_11 hl rfl rfl (Nat.le_of_ble_eq_true rfl) ⟨⟨rfl, rfl⟩, Nat.le_of_ble_eq_true rfl, Nat.le_of_ble_eq_true rfl⟩ ⟨Nat.le_of_ble_eq_true rfl, Nat.le_of_ble_eq_true rfl⟩ dX0_init_50 (fun u50 H locs hu50 hP2 hD2 hS2 => ?_)
  refine W.widen (k := 8) (n := 174) (by omega) (by omega) ?_
  have hS := hS2
  have hP : va_P D vwCl [(a, .inr (0, [.ref q5, .ref q18, .ref q31, .null, .null, .int 0])), (q5, .inr (3, [.ref u11])), (u11, .inl (cA, 6, .inl (fun _ => nI 0))), (q18, .inr (3, [.ref u24])), (u24, .inl (cA, 36, .inl (fun _ => nI 0))), (q31, .inr (3, [.ref u37])), (u37, .inl (cA, 64, .inl (fun _ => nI 0))), (q44, .inr (3, [.ref u50])), (u50, .inl (cA, 64, .inl (fun _ => nI 0)))] H := hP2
  have hD : va_D A [(a, .inr (0, [.ref q5, .ref q18, .ref q31, .null, .null, .int 0])), (q5, .inr (3, [.ref u11])), (u11, .inl (cA, 6, .inl (fun _ => nI 0))), (q18, .inr (3, [.ref u24])), (u24, .inl (cA, 36, .inl (fun _ => nI 0))), (q31, .inr (3, [.ref u37])), (u37, .inl (cA, 64, .inl (fun _ => nI 0))), (q44, .inr (3, [.ref u50])), (u50, .inl (cA, 64, .inl (fun _ => nI 0)))] := hD2
  refine q_putF (ty := (.object "OfficeholdersRoll$Row")) (ws1 := [(a, .inr (0, [.ref q5, .ref q18, .ref q31, .ref q44, .null, .int 0])), (q5, .inr (3, [.ref u11])), (u11, .inl (cA, 6, .inl (fun _ => nI 0))), (q18, .inr (3, [.ref u24])), (u24, .inl (cA, 36, .inl (fun _ => nI 0))), (q31, .inr (3, [.ref u37])), (u37, .inl (cA, 64, .inl (fun _ => nI 0))), (q44, .inr (3, [.ref u50])), (u50, .inl (cA, 64, .inl (fun _ => nI 0)))]) hx hb hT hown hK hP hD hS kw_X0 tyX0_ok nmX0 0 rfl rfl 3 (by decide) kf_X0_26 rfl rfl hin rfl (by decide +kernel) rfl rfl (Nat.le_of_ble_eq_true rfl) rfl dX0_init_53 (fun H locs hP hD hS => ?_)
  refine lv_aload_n hx hb dX0_init_56 rfl (lv_at hl 0 rfl) ?_
  refine q_new (N := 1) (ci := 3) hx hb hT hown kw_X3 tyX3 tyX3_ok kx_X0_9 kn_X3 ki_OfficeholdersRoll_Row hK hP hD hS hA rfl [.null] q_fs_X3 (Nat.le_of_ble_eq_true rfl) (Nat.le_of_ble_eq_true rfl) dX0_init_57 (fun q57 H hP hD hS => ?_)
  refine W.widen (k := 9) (n := 175) (by omega) (by omega) ?_
  refine lv_dup hx hb dX0_init_60 rfl ?_
  refine lv_bipush (v := nI 6) hx hb dX0_init_61 (by decide +kernel) ?_
  refine q_callN (As := [.int (nI 6)]) (mc := 1) (ms := 6) hx hb hml hown hT hX hK hP hD hS hA (c_X3_init l D cA q57 6 (by omega)) k_X3_init kl_X0_11 hl rfl rfl (Nat.le_of_ble_eq_true rfl) ⟨⟨rfl, rfl⟩, Nat.le_of_ble_eq_true rfl, Nat.le_of_ble_eq_true rfl⟩ ⟨Nat.le_of_ble_eq_true rfl, Nat.le_of_ble_eq_true rfl⟩ dX0_init_63 (fun u63 H locs hu63 hP2 hD2 hS2 => ?_)
  refine W.widen (k := 10) (n := 181) (by omega) (by omega) ?_
  have hS := hS2
  have hP : va_P D vwCl [(a, .inr (0, [.ref q5, .ref q18, .ref q31, .ref q44, .null, .int 0])), (q5, .inr (3, [.ref u11])), (u11, .inl (cA, 6, .inl (fun _ => nI 0))), (q18, .inr (3, [.ref u24])), (u24, .inl (cA, 36, .inl (fun _ => nI 0))), (q31, .inr (3, [.ref u37])), (u37, .inl (cA, 64, .inl (fun _ => nI 0))), (q44, .inr (3, [.ref u50])), (u50, .inl (cA, 64, .inl (fun _ => nI 0))), (q57, .inr (3, [.ref u63])), (u63, .inl (cA, 6, .inl (fun _ => nI 0)))] H := hP2
  have hD : va_D A [(a, .inr (0, [.ref q5, .ref q18, .ref q31, .ref q44, .null, .int 0])), (q5, .inr (3, [.ref u11])), (u11, .inl (cA, 6, .inl (fun _ => nI 0))), (q18, .inr (3, [.ref u24])), (u24, .inl (cA, 36, .inl (fun _ => nI 0))), (q31, .inr (3, [.ref u37])), (u37, .inl (cA, 64, .inl (fun _ => nI 0))), (q44, .inr (3, [.ref u50])), (u50, .inl (cA, 64, .inl (fun _ => nI 0))), (q57, .inr (3, [.ref u63])), (u63, .inl (cA, 6, .inl (fun _ => nI 0)))] := hD2
  refine q_putF (ty := (.object "OfficeholdersRoll$Row")) (ws1 := [(a, .inr (0, [.ref q5, .ref q18, .ref q31, .ref q44, .ref q57, .int 0])), (q5, .inr (3, [.ref u11])), (u11, .inl (cA, 6, .inl (fun _ => nI 0))), (q18, .inr (3, [.ref u24])), (u24, .inl (cA, 36, .inl (fun _ => nI 0))), (q31, .inr (3, [.ref u37])), (u37, .inl (cA, 64, .inl (fun _ => nI 0))), (q44, .inr (3, [.ref u50])), (u50, .inl (cA, 64, .inl (fun _ => nI 0))), (q57, .inr (3, [.ref u63])), (u63, .inl (cA, 6, .inl (fun _ => nI 0)))]) hx hb hT hown hK hP hD hS kw_X0 tyX0_ok nmX0 0 rfl rfl 4 (by decide) kf_X0_29 rfl rfl hin rfl (by decide +kernel) rfl rfl (Nat.le_of_ble_eq_true rfl) rfl dX0_init_66 (fun H locs hP hD hS => ?_)
  exact q_nret (u := fun k => List.getD [0, 0, 0, 0, 0, 0, 0, 0, 0, 0, 0, 0, 0, 0, 0, 0, 0, 0, 0, 0, 0, 0, 0, 0, q5, q18, q31, q44, q57, 0, 0, 0, 0, 0, 0, 0, 0, 0, 0, 0, 0, 0, 0, 0, 0, 0, 0, 0, 0, 0, 0, 0, 0, 0, u11, u24, u37, u50, u63, 0, 0, 0, 0, 0, 0, 0, 0, 0, 0, 0, 0, 0, 0, a] k 0) hx hb hr hlk rfl hP hD hS dX0_init_69
