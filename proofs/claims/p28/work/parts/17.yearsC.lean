abbrev rm_X4_tellAhead : Room := { frames := 4, cells := 0, slots := 0, locals := 89 }
set_option maxRecDepth 100000 in
set_option maxHeartbeats 4000000 in
theorem c_X4_tellAhead (l : Launch) (D : va_G) (cA : ClassId) (ad : Nat → Nat) (g : Nat → Nat → Int32) (z : Nat → Nat) (i : Nat) (j : Nat) (w : Int32) (hi : i < 16) (hj : j < 16) (hE : ∀ k, k < (z 1) → q_r ((g 14) k) 16 ∧ q_r ((g 15) k) 16) (ht : (z 1) < 40) : q_CI l yX4_tellAhead [Cond.code yX4_tellAhead cX4_tellAhead 5 (some .int)] rm_X4_tellAhead D cA [.ref (ad 71), .int (nI i), .int (nI j), .int w] (yrW cA ad g z) (vd (dOK (upd (g 14) (z 1) (nI i)) (upd (g 15) (z 1) (nI j)) (upd (g 16) (z 1) w) (g 12) (g 13) ((z 1) + 1)) (dMV (upd (g 14) (z 1) (nI i)) (upd (g 15) (z 1) (nI j)) (upd (g 16) (z 1) w) (g 12) (g 13) (g 17) (g 18) ((z 1) + 1))) (yrW cA ad (gs (gs (gs (gs (gs (gs (gs g 14 (upd (g 14) (z 1) (nI i))) 15 (upd (g 15) (z 1) (nI j))) 16 (upd (g 16) (z 1) w)) 17 (bif dOK (upd (g 14) (z 1) (nI i)) (upd (g 15) (z 1) (nI j)) (upd (g 16) (z 1) w) (g 12) (g 13) ((z 1) + 1) then itF (upd (g 14) (z 1) (nI i)) (upd (g 15) (z 1) (nI j)) (upd (g 16) (z 1) w) (g 12) ((z 1) + 1) 16 else (g 17))) 18 (bif dOK (upd (g 14) (z 1) (nI i)) (upd (g 15) (z 1) (nI j)) (upd (g 16) (z 1) w) (g 12) (g 13) ((z 1) + 1) then itL (upd (g 14) (z 1) (nI i)) (upd (g 15) (z 1) (nI j)) (upd (g 16) (z 1) w) (g 13) ((z 1) + 1) 16 else (g 18))) 19 (itF (upd (g 14) (z 1) (nI i)) (upd (g 15) (z 1) (nI j)) (upd (g 16) (z 1) w) (g 12) ((z 1) + 1) 16)) 20 (itL (upd (g 14) (z 1) (nI i)) (upd (g 15) (z 1) (nI j)) (upd (g 16) (z 1) w) (g 13) ((z 1) + 1) 16)) (zs z 1 (bif dOK (upd (g 14) (z 1) (nI i)) (upd (g 15) (z 1) (nI j)) (upd (g 16) (z 1) w) (g 12) (g 13) ((z 1) + 1) then (z 1) + 1 else (z 1)))) := by
  refine q_startI RX4 (by decide +kernel) rfl (Nat.le_of_ble_eq_true rfl) ?_
  intro p e s m below meth c A args H locs ls hx hb hr hml hown hT hlk hP hK hD hA hS hl
  have hl : lv_has ls 5 [(0, .ref (ad 71)), (1, .int (nI i)), (2, .int (nI j)), (3, .int w)] := hl
  refine lv_aload_n hx hb dX4_tellAhead_0 rfl (lv_at hl 0 rfl) ?_
  refine q_get hx hb hT hown hK hP kw_X4 0 rfl rfl 2 (by decide) kf_X4_23 rfl (v := .ref (ad 14)) rfl dX4_tellAhead_1 ?_
  refine lv_aload_n hx hb dX4_tellAhead_4 rfl (lv_at hl 0 rfl) ?_
  refine q_get hx hb hT hown hK hP kw_X4 0 rfl rfl 10 (by decide) kf_X4_50 rfl (v := .int (nI (z 1))) rfl dX4_tellAhead_5 ?_
  refine lv_iload_n hx hb dX4_tellAhead_8 rfl (lv_at hl 1 rfl) ?_
  refine q_callV (As := [.int (nI (z 1)), .int (nI i)]) (wc := rowW cA (ad 14) (ad 44) 40 (g 14)) (w1 := rowW cA (ad 14) (ad 44) 40 (upd (g 14) (z 1) (nI i))) (ws1 := yrW cA ad (gs g 14 (upd (g 14) (z 1) (nI i))) z) hx hb hml hown hT hK hP hD hS hA (c_X3_putN l D cA (ad 14) (ad 44) 40 (g 14) (z 1) (nI i) (by omega) (by omega)) k_X3_put kl_X4_58 (q0 := 0) rfl rfl rfl [5, 6] rfl rfl rfl rfl hl rfl rfl (Nat.le_of_ble_eq_true rfl) ⟨⟨rfl, rfl⟩, Nat.le_of_ble_eq_true rfl, Nat.le_of_ble_eq_true rfl⟩ ⟨Nat.zero_le _, Nat.zero_le _⟩ dX4_tellAhead_9 (fun H locs hP hD hS => ?_)
  obtain ⟨nF9_14, enF9_14⟩ : ∃ y : Nat → Int32, y = upd (g 14) (z 1) (nI i) := ⟨_, rfl⟩
  have hP : va_P D vwCl (yrW cA ad (gs g 14 nF9_14) z) H := by rw [enF9_14]; exact hP
  have hD : va_D A (yrW cA ad (gs g 14 nF9_14) z) := by rw [enF9_14]; exact hD
  refine lv_aload_n hx hb dX4_tellAhead_12 rfl (lv_at hl 0 rfl) ?_
  refine q_get hx hb hT hown hK hP kw_X4 0 rfl rfl 3 (by decide) kf_X4_26 rfl (v := .ref (ad 15)) rfl dX4_tellAhead_13 ?_
  refine lv_aload_n hx hb dX4_tellAhead_16 rfl (lv_at hl 0 rfl) ?_
  refine q_get hx hb hT hown hK hP kw_X4 0 rfl rfl 10 (by decide) kf_X4_50 rfl (v := .int (nI (z 1))) rfl dX4_tellAhead_17 ?_
  refine lv_iload_n hx hb dX4_tellAhead_20 rfl (lv_at hl 2 rfl) ?_
  refine q_callV (As := [.int (nI (z 1)), .int (nI j)]) (wc := rowW cA (ad 15) (ad 45) 40 (g 15)) (w1 := rowW cA (ad 15) (ad 45) 40 (upd (g 15) (z 1) (nI j))) (ws1 := yrW cA ad (gs (gs g 14 nF9_14) 15 (upd (g 15) (z 1) (nI j))) z) hx hb hml hown hT hK hP hD hS hA (c_X3_putN l D cA (ad 15) (ad 45) 40 (g 15) (z 1) (nI j) (by omega) (by omega)) k_X3_put kl_X4_58 (q0 := 0) rfl rfl rfl [7, 8] rfl rfl rfl rfl hl rfl rfl (Nat.le_of_ble_eq_true rfl) ⟨⟨rfl, rfl⟩, Nat.le_of_ble_eq_true rfl, Nat.le_of_ble_eq_true rfl⟩ ⟨Nat.zero_le _, Nat.zero_le _⟩ dX4_tellAhead_21 (fun H locs hP hD hS => ?_)
  obtain ⟨nF21_15, enF21_15⟩ : ∃ y : Nat → Int32, y = upd (g 15) (z 1) (nI j) := ⟨_, rfl⟩
  have hP : va_P D vwCl (yrW cA ad (gs (gs g 14 nF9_14) 15 nF21_15) z) H := by rw [enF21_15]; exact hP
  have hD : va_D A (yrW cA ad (gs (gs g 14 nF9_14) 15 nF21_15) z) := by rw [enF21_15]; exact hD
  refine lv_aload_n hx hb dX4_tellAhead_24 rfl (lv_at hl 0 rfl) ?_
  refine q_get hx hb hT hown hK hP kw_X4 0 rfl rfl 4 (by decide) kf_X4_29 rfl (v := .ref (ad 16)) rfl dX4_tellAhead_25 ?_
  refine lv_aload_n hx hb dX4_tellAhead_28 rfl (lv_at hl 0 rfl) ?_
  refine q_get hx hb hT hown hK hP kw_X4 0 rfl rfl 10 (by decide) kf_X4_50 rfl (v := .int (nI (z 1))) rfl dX4_tellAhead_29 ?_
  refine lv_iload_n hx hb dX4_tellAhead_32 rfl (lv_at hl 3 rfl) ?_
  refine q_callV (As := [.int (nI (z 1)), .int w]) (wc := rowW cA (ad 16) (ad 46) 40 (g 16)) (w1 := rowW cA (ad 16) (ad 46) 40 (upd (g 16) (z 1) w)) (ws1 := yrW cA ad (gs (gs (gs g 14 nF9_14) 15 nF21_15) 16 (upd (g 16) (z 1) w)) z) hx hb hml hown hT hK hP hD hS hA (c_X3_putN l D cA (ad 16) (ad 46) 40 (g 16) (z 1) w (by omega) (by omega)) k_X3_put kl_X4_58 (q0 := 0) rfl rfl rfl [9, 10] rfl rfl rfl rfl hl rfl rfl (Nat.le_of_ble_eq_true rfl) ⟨⟨rfl, rfl⟩, Nat.le_of_ble_eq_true rfl, Nat.le_of_ble_eq_true rfl⟩ ⟨Nat.zero_le _, Nat.zero_le _⟩ dX4_tellAhead_33 (fun H locs hP hD hS => ?_)
  obtain ⟨nF33_16, enF33_16⟩ : ∃ y : Nat → Int32, y = upd (g 16) (z 1) w := ⟨_, rfl⟩
  have hP : va_P D vwCl (yrW cA ad (gs (gs (gs g 14 nF9_14) 15 nF21_15) 16 nF33_16) z) H := by rw [enF33_16]; exact hP
  have hD : va_D A (yrW cA ad (gs (gs (gs g 14 nF9_14) 15 nF21_15) 16 nF33_16) z) := by rw [enF33_16]; exact hD
  refine lv_aload_n hx hb dX4_tellAhead_36 rfl (lv_at hl 0 rfl) ?_
  refine lv_dup hx hb dX4_tellAhead_37 rfl ?_
  refine q_get hx hb hT hown hK hP kw_X4 0 rfl rfl 10 (by decide) kf_X4_50 rfl (v := .int (nI (z 1))) rfl dX4_tellAhead_38 ?_
  refine lv_iconst (v := nI 1) hx hb dX4_tellAhead_41 (by decide +kernel) ?_
  refine lv_iadd hx hb dX4_tellAhead_42 ?_
  refine q_top (y := nI (z 1 + 1)) (nI_add _ _) ?_
  refine q_put (ty := .int) (ws1 := yrW cA ad (gs (gs (gs g 14 nF9_14) 15 nF21_15) 16 nF33_16) (zs z 1 (z 1 + 1))) hx hb hT hown hK hP hD hS kw_X4 tyX4_ok nmX4 0 rfl rfl 10 (by decide) kf_X4_50 rfl rfl (by decide +kernel) rfl rfl (Nat.le_of_ble_eq_true rfl) rfl dX4_tellAhead_43 (fun H locs hP hD hS => ?_)
  refine lv_aload_n hx hb dX4_tellAhead_46 rfl (lv_at hl 0 rfl) ?_
  refine q_callIW (As := []) (r := vd (dOK nF9_14 nF21_15 nF33_16 (g 12) (g 13) (z 1 + 1)) (dMV nF9_14 nF21_15 nF33_16 (g 12) (g 13) (g 17) (g 18) (z 1 + 1))) (w1 := yrW cA ad (gs (gs (gs (gs (gs g 14 nF9_14) 15 nF21_15) 16 nF33_16) 19 (itF nF9_14 nF21_15 nF33_16 (g 12) (z 1 + 1) 16)) 20 (itL nF9_14 nF21_15 nF33_16 (g 13) (z 1 + 1) 16)) (zs z 1 (z 1 + 1))) hx hb hml hown hT hK hP hD hS hA (c_X4_tryDating l D cA ad (gs (gs (gs g 14 nF9_14) 15 nF21_15) 16 nF33_16) (zs z 1 (z 1 + 1)) (show ∀ k, k < z 1 + 1 → q_r (nF9_14 k) 16 ∧ q_r (nF21_15 k) 16 by rw [enF9_14, enF21_15]; exact hE_add hE hi hj) (show (z 1 + 1) ≤ 40 by omega)) k_X4_tryDating kl_X4_62 (q0 := 0) rfl rfl rfl ((yrW_adr _ _ _ _).trans (yrW_adr _ _ _ _).symm) hl rfl rfl (Nat.le_of_ble_eq_true rfl) ⟨⟨rfl, rfl⟩, Nat.le_of_ble_eq_true rfl, Nat.le_of_ble_eq_true rfl⟩ ⟨Nat.zero_le _, Nat.zero_le _⟩ dX4_tellAhead_47 (fun H locs hP hD hS => ?_)
  obtain ⟨nF47_19, enF47_19⟩ : ∃ y : Nat → Int32, y = itF nF9_14 nF21_15 nF33_16 (g 12) (z 1 + 1) 16 := ⟨_, rfl⟩
  have hP : va_P D vwCl (yrW cA ad (gs (gs (gs (gs (gs g 14 nF9_14) 15 nF21_15) 16 nF33_16) 19 nF47_19) 20 (itL nF9_14 nF21_15 nF33_16 (g 13) (z 1 + 1) 16)) (zs z 1 (z 1 + 1))) H := by rw [enF47_19]; exact hP
  have hD : va_D A (yrW cA ad (gs (gs (gs (gs (gs g 14 nF9_14) 15 nF21_15) 16 nF33_16) 19 nF47_19) 20 (itL nF9_14 nF21_15 nF33_16 (g 13) (z 1 + 1) 16)) (zs z 1 (z 1 + 1))) := by rw [enF47_19]; exact hD
  obtain ⟨nF47_20, enF47_20⟩ : ∃ y : Nat → Int32, y = itL nF9_14 nF21_15 nF33_16 (g 13) (z 1 + 1) 16 := ⟨_, rfl⟩
  have hP : va_P D vwCl (yrW cA ad (gs (gs (gs (gs (gs g 14 nF9_14) 15 nF21_15) 16 nF33_16) 19 nF47_19) 20 nF47_20) (zs z 1 (z 1 + 1))) H := by rw [enF47_20]; exact hP
  have hD : va_D A (yrW cA ad (gs (gs (gs (gs (gs g 14 nF9_14) 15 nF21_15) 16 nF33_16) 19 nF47_19) 20 nF47_20) (zs z 1 (z 1 + 1))) := by rw [enF47_20]; exact hD
  refine lv_istore (lv' := [(4, .int (vd (dOK nF9_14 nF21_15 nF33_16 (g 12) (g 13) (z 1 + 1)) (dMV nF9_14 nF21_15 nF33_16 (g 12) (g 13) (g 17) (g 18) (z 1 + 1)))), (0, .ref (ad 71)), (1, .int (nI i)), (2, .int (nI j)), (3, .int w)]) hx hb dX4_tellAhead_50 hl (by decide) rfl (fun ls hl => ?_)
  refine lv_iload hx hb dX4_tellAhead_52 (lv_at hl 0 rfl) ?_
  refine lv_iconst (v := (-1)) hx hb dX4_tellAhead_54 (by decide +kernel) ?_
  refine lv_icmp_ne (tgt := 71) hx hb dX4_tellAhead_55 (by decide) (fun c_55 => ?_) (fun c_55 => ?_)
  · have d_55 := vd_ok c_55
    refine lv_aload_n hx hb dX4_tellAhead_71 rfl (lv_at hl 1 rfl) ?_
    refine q_callVW (As := []) (w1 := yrW cA ad (gs (gs (gs (gs (gs (gs (gs g 14 nF9_14) 15 nF21_15) 16 nF33_16) 17 nF47_19) 18 nF47_20) 19 nF47_19) 20 nF47_20) (zs z 1 (z 1 + 1))) hx hb hml hown hT hK hP hD hS hA (c_X4_keepTried l D cA ad (gs (gs (gs (gs (gs g 14 nF9_14) 15 nF21_15) 16 nF33_16) 19 nF47_19) 20 nF47_20) (zs z 1 (z 1 + 1))) k_X4_keepTried kl_X4_66 (q0 := 0) rfl rfl rfl ((yrW_adr _ _ _ _).trans (yrW_adr _ _ _ _).symm) hl rfl rfl (Nat.le_of_ble_eq_true rfl) ⟨⟨rfl, rfl⟩, Nat.le_of_ble_eq_true rfl, Nat.le_of_ble_eq_true rfl⟩ ⟨Nat.zero_le _, Nat.zero_le _⟩ dX4_tellAhead_72 (fun H locs hP hD hS => ?_)
    refine lv_iload hx hb dX4_tellAhead_75 (lv_at hl 0 rfl) ?_
    rw [enF47_20] at hP hD
    rw [enF47_19] at hP hD
    rw [enF33_16] at hP hD
    rw [enF33_16] at hl
    rw [enF33_16]
    rw [enF21_15] at hP hD
    rw [enF21_15] at hl
    rw [enF21_15]
    rw [enF9_14] at hP hD
    rw [enF9_14] at hl
    rw [enF9_14]
    exact q_iret hx hb hr hlk (by rfl) (va_cast' hP (by rw [enF9_14, enF21_15, enF33_16] at d_55; rw [d_55]; rfl)) hS dX4_tellAhead_77
  · have d_55 := vd_m1 dMV_le c_55
    refine lv_aload_n hx hb dX4_tellAhead_58 rfl (lv_at hl 1 rfl) ?_
    refine lv_dup hx hb dX4_tellAhead_59 rfl ?_
    refine q_get hx hb hT hown hK hP kw_X4 0 rfl rfl 10 (by decide) kf_X4_50 rfl (v := .int (nI (z 1 + 1))) rfl dX4_tellAhead_60 ?_
    refine lv_iconst (v := nI 1) hx hb dX4_tellAhead_63 (by decide +kernel) ?_
    refine lv_isub hx hb dX4_tellAhead_64 ?_
    refine q_top (y := nI (z 1)) (q_sub1 _) ?_
    refine q_put (ty := .int) (ws1 := yrW cA ad (gs (gs (gs (gs (gs g 14 nF9_14) 15 nF21_15) 16 nF33_16) 19 nF47_19) 20 nF47_20) (zs z 1 (z 1))) hx hb hT hown hK hP hD hS kw_X4 tyX4_ok nmX4 0 rfl rfl 10 (by decide) kf_X4_50 rfl rfl (by decide +kernel) rfl rfl (Nat.le_of_ble_eq_true rfl) rfl dX4_tellAhead_65 (fun H locs hP hD hS => ?_)
    refine lv_goto (tgt := 75) hx hb dX4_tellAhead_68 (by decide) ?_
    refine lv_iload hx hb dX4_tellAhead_75 (lv_at hl 0 rfl) ?_
    rw [enF47_20] at hP hD
    rw [enF47_19] at hP hD
    rw [enF33_16] at hP hD
    rw [enF33_16] at hl
    rw [enF33_16]
    rw [enF21_15] at hP hD
    rw [enF21_15] at hl
    rw [enF21_15]
    rw [enF9_14] at hP hD
    rw [enF9_14] at hl
    rw [enF9_14]
    exact q_iret hx hb hr hlk (by rfl) (va_cast' hP (by rw [enF9_14, enF21_15, enF33_16] at d_55; rw [d_55]; rfl)) hS dX4_tellAhead_77
abbrev rm_X4_tryNarrow : Room := { frames := 4, cells := 0, slots := 0, locals := 89 }
set_option maxRecDepth 100000 in
set_option maxHeartbeats 4000000 in
theorem c_X4_tryNarrow (l : Launch) (D : va_G) (cA : ClassId) (ad : Nat → Nat) (g : Nat → Nat → Int32) (z : Nat → Nat) (k : Nat) (lo : Int32) (hi : Int32) (hk : k < 16) (hE : ∀ k, k < (z 1) → q_r ((g 14) k) 16 ∧ q_r ((g 15) k) 16) (ht : (z 1) ≤ 40) : q_CI l yX4_tryNarrow [Cond.code yX4_tryNarrow cX4_tryNarrow 7 (some .int)] rm_X4_tryNarrow D cA [.ref (ad 71), .int (nI k), .int lo, .int hi] (yrW cA ad g z) (vd (dOK (g 14) (g 15) (g 16) (upd (g 12) k (mx ((g 12) k) lo)) (upd (g 13) k (mn ((g 13) k) hi)) (z 1)) (dMV (g 14) (g 15) (g 16) (upd (g 12) k (mx ((g 12) k) lo)) (upd (g 13) k (mn ((g 13) k) hi)) (g 17) (g 18) (z 1))) (yrW cA ad (gs (gs g 19 (itF (g 14) (g 15) (g 16) (upd (g 12) k (mx ((g 12) k) lo)) (z 1) 16)) 20 (itL (g 14) (g 15) (g 16) (upd (g 13) k (mn ((g 13) k) hi)) (z 1) 16)) z) := by
  refine q_startI RX4 (by decide +kernel) rfl (Nat.le_of_ble_eq_true rfl) ?_
  intro p e s m below meth c A args H locs ls hx hb hr hml hown hT hlk hP hK hD hA hS hl
  have hl : lv_has ls 7 [(0, .ref (ad 71)), (1, .int (nI k)), (2, .int lo), (3, .int hi)] := hl
  refine lv_aload_n hx hb dX4_tryNarrow_0 rfl (lv_at hl 0 rfl) ?_
  refine q_get hx hb hT hown hK hP kw_X4 0 rfl rfl 0 (by decide) kf_X4_14 rfl (v := .ref (ad 12)) rfl dX4_tryNarrow_1 ?_
  refine lv_iload_n hx hb dX4_tryNarrow_4 rfl (lv_at hl 1 rfl) ?_
  refine q_callI (As := [.int (nI k)]) (r := g 12 k) (wc := rowW cA (ad 12) (ad 42) 16 (g 12)) (w1 := rowW cA (ad 12) (ad 42) 16 (g 12)) (ws1 := yrW cA ad g z) hx hb hml hown hT hK hP hD hS hA (c_X3_atN l D cA (ad 12) (ad 42) 16 (g 12) k (by omega) (by omega)) k_X3_at kl_X4_54 (q0 := 0) rfl rfl rfl [1, 2] rfl rfl rfl rfl hl rfl rfl (Nat.le_of_ble_eq_true rfl) ⟨⟨rfl, rfl⟩, Nat.le_of_ble_eq_true rfl, Nat.le_of_ble_eq_true rfl⟩ ⟨Nat.zero_le _, Nat.zero_le _⟩ dX4_tryNarrow_5 (fun H locs hP hD hS => ?_)
  refine lv_istore (lv' := [(4, .int (g 12 k)), (0, .ref (ad 71)), (1, .int (nI k)), (2, .int lo), (3, .int hi)]) hx hb dX4_tryNarrow_8 hl (by decide) rfl (fun ls hl => ?_)
  refine lv_aload_n hx hb dX4_tryNarrow_10 rfl (lv_at hl 1 rfl) ?_
  refine q_get hx hb hT hown hK hP kw_X4 0 rfl rfl 1 (by decide) kf_X4_20 rfl (v := .ref (ad 13)) rfl dX4_tryNarrow_11 ?_
  refine lv_iload_n hx hb dX4_tryNarrow_14 rfl (lv_at hl 2 rfl) ?_
  refine q_callI (As := [.int (nI k)]) (r := g 13 k) (wc := rowW cA (ad 13) (ad 43) 16 (g 13)) (w1 := rowW cA (ad 13) (ad 43) 16 (g 13)) (ws1 := yrW cA ad g z) hx hb hml hown hT hK hP hD hS hA (c_X3_atN l D cA (ad 13) (ad 43) 16 (g 13) k (by omega) (by omega)) k_X3_at kl_X4_54 (q0 := 0) rfl rfl rfl [3, 4] rfl rfl rfl rfl hl rfl rfl (Nat.le_of_ble_eq_true rfl) ⟨⟨rfl, rfl⟩, Nat.le_of_ble_eq_true rfl, Nat.le_of_ble_eq_true rfl⟩ ⟨Nat.zero_le _, Nat.zero_le _⟩ dX4_tryNarrow_15 (fun H locs hP hD hS => ?_)
  refine lv_istore (lv' := [(5, .int (g 13 k)), (4, .int (g 12 k)), (0, .ref (ad 71)), (1, .int (nI k)), (2, .int lo), (3, .int hi)]) hx hb dX4_tryNarrow_18 hl (by decide) rfl (fun ls hl => ?_)
  refine lv_aload_n hx hb dX4_tryNarrow_20 rfl (lv_at hl 2 rfl) ?_
  refine q_get hx hb hT hown hK hP kw_X4 0 rfl rfl 0 (by decide) kf_X4_14 rfl (v := .ref (ad 12)) rfl dX4_tryNarrow_21 ?_
  refine lv_iload_n hx hb dX4_tryNarrow_24 rfl (lv_at hl 3 rfl) ?_
  refine lv_iload hx hb dX4_tryNarrow_25 (lv_at hl 1 rfl) ?_
  refine lv_iload_n hx hb dX4_tryNarrow_27 rfl (lv_at hl 4 rfl) ?_
  refine q_max hx hb hml hown hT hl kl_X4_73 (Nat.le_of_ble_eq_true rfl) (Nat.le_of_ble_eq_true rfl) ⟨Nat.zero_le _, Nat.zero_le _⟩ dX4_tryNarrow_28 ?_
  refine q_top (y := mx ((g 12) k) lo) (rfl) ?_
  refine q_callV (As := [.int (nI k), .int (mx ((g 12) k) lo)]) (wc := rowW cA (ad 12) (ad 42) 16 (g 12)) (w1 := rowW cA (ad 12) (ad 42) 16 (upd (g 12) k (mx ((g 12) k) lo))) (ws1 := yrW cA ad (gs g 12 (upd (g 12) k (mx ((g 12) k) lo))) z) hx hb hml hown hT hK hP hD hS hA (c_X3_putN l D cA (ad 12) (ad 42) 16 (g 12) k (mx ((g 12) k) lo) (by omega) (by omega)) k_X3_put kl_X4_58 (q0 := 0) rfl rfl rfl [1, 2] rfl rfl rfl rfl hl rfl rfl (Nat.le_of_ble_eq_true rfl) ⟨⟨rfl, rfl⟩, Nat.le_of_ble_eq_true rfl, Nat.le_of_ble_eq_true rfl⟩ ⟨Nat.zero_le _, Nat.zero_le _⟩ dX4_tryNarrow_31 (fun H locs hP hD hS => ?_)
  obtain ⟨nF31_12, enF31_12⟩ : ∃ y : Nat → Int32, y = upd (g 12) k (mx ((g 12) k) lo) := ⟨_, rfl⟩
  have hP : va_P D vwCl (yrW cA ad (gs g 12 nF31_12) z) H := by rw [enF31_12]; exact hP
  have hD : va_D A (yrW cA ad (gs g 12 nF31_12) z) := by rw [enF31_12]; exact hD
  refine lv_aload_n hx hb dX4_tryNarrow_34 rfl (lv_at hl 2 rfl) ?_
  refine q_get hx hb hT hown hK hP kw_X4 0 rfl rfl 1 (by decide) kf_X4_20 rfl (v := .ref (ad 13)) rfl dX4_tryNarrow_35 ?_
  refine lv_iload_n hx hb dX4_tryNarrow_38 rfl (lv_at hl 3 rfl) ?_
  refine lv_iload hx hb dX4_tryNarrow_39 (lv_at hl 0 rfl) ?_
  refine lv_iload_n hx hb dX4_tryNarrow_41 rfl (lv_at hl 5 rfl) ?_
  refine q_min hx hb hml hown hT hl kl_X4_79 (Nat.le_of_ble_eq_true rfl) (Nat.le_of_ble_eq_true rfl) ⟨Nat.zero_le _, Nat.zero_le _⟩ dX4_tryNarrow_42 ?_
  refine q_top (y := mn ((g 13) k) hi) (rfl) ?_
  refine q_callV (As := [.int (nI k), .int (mn ((g 13) k) hi)]) (wc := rowW cA (ad 13) (ad 43) 16 (g 13)) (w1 := rowW cA (ad 13) (ad 43) 16 (upd (g 13) k (mn ((g 13) k) hi))) (ws1 := yrW cA ad (gs (gs g 12 nF31_12) 13 (upd (g 13) k (mn ((g 13) k) hi))) z) hx hb hml hown hT hK hP hD hS hA (c_X3_putN l D cA (ad 13) (ad 43) 16 (g 13) k (mn ((g 13) k) hi) (by omega) (by omega)) k_X3_put kl_X4_58 (q0 := 0) rfl rfl rfl [3, 4] rfl rfl rfl rfl hl rfl rfl (Nat.le_of_ble_eq_true rfl) ⟨⟨rfl, rfl⟩, Nat.le_of_ble_eq_true rfl, Nat.le_of_ble_eq_true rfl⟩ ⟨Nat.zero_le _, Nat.zero_le _⟩ dX4_tryNarrow_45 (fun H locs hP hD hS => ?_)
  obtain ⟨nF45_13, enF45_13⟩ : ∃ y : Nat → Int32, y = upd (g 13) k (mn ((g 13) k) hi) := ⟨_, rfl⟩
  have hP : va_P D vwCl (yrW cA ad (gs (gs g 12 nF31_12) 13 nF45_13) z) H := by rw [enF45_13]; exact hP
  have hD : va_D A (yrW cA ad (gs (gs g 12 nF31_12) 13 nF45_13) z) := by rw [enF45_13]; exact hD
  refine lv_aload_n hx hb dX4_tryNarrow_48 rfl (lv_at hl 2 rfl) ?_
  refine q_callIW (As := []) (r := vd (dOK (g 14) (g 15) (g 16) nF31_12 nF45_13 (z 1)) (dMV (g 14) (g 15) (g 16) nF31_12 nF45_13 (g 17) (g 18) (z 1))) (w1 := yrW cA ad (gs (gs (gs (gs g 12 nF31_12) 13 nF45_13) 19 (itF (g 14) (g 15) (g 16) nF31_12 (z 1) 16)) 20 (itL (g 14) (g 15) (g 16) nF45_13 (z 1) 16)) z) hx hb hml hown hT hK hP hD hS hA (c_X4_tryDating l D cA ad (gs (gs g 12 nF31_12) 13 nF45_13) z hE (show (z 1) ≤ 40 by omega)) k_X4_tryDating kl_X4_62 (q0 := 0) rfl rfl rfl ((yrW_adr _ _ _ _).trans (yrW_adr _ _ _ _).symm) hl rfl rfl (Nat.le_of_ble_eq_true rfl) ⟨⟨rfl, rfl⟩, Nat.le_of_ble_eq_true rfl, Nat.le_of_ble_eq_true rfl⟩ ⟨Nat.zero_le _, Nat.zero_le _⟩ dX4_tryNarrow_49 (fun H locs hP hD hS => ?_)
  obtain ⟨nF49_19, enF49_19⟩ : ∃ y : Nat → Int32, y = itF (g 14) (g 15) (g 16) nF31_12 (z 1) 16 := ⟨_, rfl⟩
  have hP : va_P D vwCl (yrW cA ad (gs (gs (gs (gs g 12 nF31_12) 13 nF45_13) 19 nF49_19) 20 (itL (g 14) (g 15) (g 16) nF45_13 (z 1) 16)) z) H := by rw [enF49_19]; exact hP
  have hD : va_D A (yrW cA ad (gs (gs (gs (gs g 12 nF31_12) 13 nF45_13) 19 nF49_19) 20 (itL (g 14) (g 15) (g 16) nF45_13 (z 1) 16)) z) := by rw [enF49_19]; exact hD
  obtain ⟨nF49_20, enF49_20⟩ : ∃ y : Nat → Int32, y = itL (g 14) (g 15) (g 16) nF45_13 (z 1) 16 := ⟨_, rfl⟩
  have hP : va_P D vwCl (yrW cA ad (gs (gs (gs (gs g 12 nF31_12) 13 nF45_13) 19 nF49_19) 20 nF49_20) z) H := by rw [enF49_20]; exact hP
  have hD : va_D A (yrW cA ad (gs (gs (gs (gs g 12 nF31_12) 13 nF45_13) 19 nF49_19) 20 nF49_20) z) := by rw [enF49_20]; exact hD
  refine lv_istore (lv' := [(6, .int (vd (dOK (g 14) (g 15) (g 16) nF31_12 nF45_13 (z 1)) (dMV (g 14) (g 15) (g 16) nF31_12 nF45_13 (g 17) (g 18) (z 1)))), (5, .int (g 13 k)), (4, .int (g 12 k)), (0, .ref (ad 71)), (1, .int (nI k)), (2, .int lo), (3, .int hi)]) hx hb dX4_tryNarrow_52 hl (by decide) rfl (fun ls hl => ?_)
  refine lv_aload_n hx hb dX4_tryNarrow_54 rfl (lv_at hl 3 rfl) ?_
  refine q_get hx hb hT hown hK hP kw_X4 0 rfl rfl 0 (by decide) kf_X4_14 rfl (v := .ref (ad 12)) rfl dX4_tryNarrow_55 ?_
  refine lv_iload_n hx hb dX4_tryNarrow_58 rfl (lv_at hl 4 rfl) ?_
  refine lv_iload hx hb dX4_tryNarrow_59 (lv_at hl 2 rfl) ?_
  refine q_callV (As := [.int (nI k), .int (g 12 k)]) (wc := rowW cA (ad 12) (ad 42) 16 nF31_12) (w1 := rowW cA (ad 12) (ad 42) 16 (upd nF31_12 k (g 12 k))) (ws1 := yrW cA ad (gs (gs (gs (gs g 12 (upd nF31_12 k (g 12 k))) 13 nF45_13) 19 nF49_19) 20 nF49_20) z) hx hb hml hown hT hK hP hD hS hA (c_X3_putN l D cA (ad 12) (ad 42) 16 nF31_12 k (g 12 k) (by omega) (by omega)) k_X3_put kl_X4_58 (q0 := 0) rfl rfl rfl [1, 2] rfl rfl rfl rfl hl rfl rfl (Nat.le_of_ble_eq_true rfl) ⟨⟨rfl, rfl⟩, Nat.le_of_ble_eq_true rfl, Nat.le_of_ble_eq_true rfl⟩ ⟨Nat.zero_le _, Nat.zero_le _⟩ dX4_tryNarrow_61 (fun H locs hP hD hS => ?_)
  obtain ⟨nF61_12, enF61_12⟩ : ∃ y : Nat → Int32, y = upd nF31_12 k (g 12 k) := ⟨_, rfl⟩
  have hP : va_P D vwCl (yrW cA ad (gs (gs (gs (gs g 12 nF61_12) 13 nF45_13) 19 nF49_19) 20 nF49_20) z) H := by rw [enF61_12]; exact hP
  have hD : va_D A (yrW cA ad (gs (gs (gs (gs g 12 nF61_12) 13 nF45_13) 19 nF49_19) 20 nF49_20) z) := by rw [enF61_12]; exact hD
  refine lv_aload_n hx hb dX4_tryNarrow_64 rfl (lv_at hl 3 rfl) ?_
  refine q_get hx hb hT hown hK hP kw_X4 0 rfl rfl 1 (by decide) kf_X4_20 rfl (v := .ref (ad 13)) rfl dX4_tryNarrow_65 ?_
  refine lv_iload_n hx hb dX4_tryNarrow_68 rfl (lv_at hl 4 rfl) ?_
  refine lv_iload hx hb dX4_tryNarrow_69 (lv_at hl 1 rfl) ?_
  refine q_callV (As := [.int (nI k), .int (g 13 k)]) (wc := rowW cA (ad 13) (ad 43) 16 nF45_13) (w1 := rowW cA (ad 13) (ad 43) 16 (upd nF45_13 k (g 13 k))) (ws1 := yrW cA ad (gs (gs (gs (gs g 12 nF61_12) 13 (upd nF45_13 k (g 13 k))) 19 nF49_19) 20 nF49_20) z) hx hb hml hown hT hK hP hD hS hA (c_X3_putN l D cA (ad 13) (ad 43) 16 nF45_13 k (g 13 k) (by omega) (by omega)) k_X3_put kl_X4_58 (q0 := 0) rfl rfl rfl [3, 4] rfl rfl rfl rfl hl rfl rfl (Nat.le_of_ble_eq_true rfl) ⟨⟨rfl, rfl⟩, Nat.le_of_ble_eq_true rfl, Nat.le_of_ble_eq_true rfl⟩ ⟨Nat.zero_le _, Nat.zero_le _⟩ dX4_tryNarrow_71 (fun H locs hP hD hS => ?_)
  obtain ⟨nF71_13, enF71_13⟩ : ∃ y : Nat → Int32, y = upd nF45_13 k (g 13 k) := ⟨_, rfl⟩
  have hP : va_P D vwCl (yrW cA ad (gs (gs (gs (gs g 12 nF61_12) 13 nF71_13) 19 nF49_19) 20 nF49_20) z) H := by rw [enF71_13]; exact hP
  have hD : va_D A (yrW cA ad (gs (gs (gs (gs g 12 nF61_12) 13 nF71_13) 19 nF49_19) 20 nF49_20) z) := by rw [enF71_13]; exact hD
  refine lv_iload hx hb dX4_tryNarrow_74 (lv_at hl 0 rfl) ?_
  rw [enF71_13] at hP hD
  rw [enF61_12] at hP hD
  rw [enF49_20] at hP hD
  rw [enF49_19] at hP hD
  rw [enF45_13] at hP hD
  rw [enF45_13] at hl
  rw [enF45_13]
  rw [enF31_12] at hP hD
  rw [enF31_12] at hl
  rw [enF31_12]
  exact q_iret hx hb hr hlk (by rfl) (va_cast' hP (by rw [upd_back, upd_back]; rfl)) hS dX4_tryNarrow_76
abbrev rm_X4_narrow : Room := { frames := 5, cells := 0, slots := 0, locals := 115 }
set_option maxRecDepth 100000 in
set_option maxHeartbeats 4000000 in
theorem c_X4_narrow (l : Launch) (D : va_G) (cA : ClassId) (ad : Nat → Nat) (g : Nat → Nat → Int32) (z : Nat → Nat) (k : Nat) (lo : Int32) (hi : Int32) (hk : k < 16) (hE : ∀ k, k < (z 1) → q_r ((g 14) k) 16 ∧ q_r ((g 15) k) 16) (ht : (z 1) ≤ 40) : q_CI l yX4_narrow [Cond.code yX4_narrow cX4_narrow 5 (some .int)] rm_X4_narrow D cA [.ref (ad 71), .int (nI k), .int lo, .int hi] (yrW cA ad g z) (vd (dOK (g 14) (g 15) (g 16) (upd (g 12) k (mx ((g 12) k) lo)) (upd (g 13) k (mn ((g 13) k) hi)) (z 1)) (dMV (g 14) (g 15) (g 16) (upd (g 12) k (mx ((g 12) k) lo)) (upd (g 13) k (mn ((g 13) k) hi)) (g 17) (g 18) (z 1))) (yrW cA ad (gs (gs (gs (gs (gs (gs g 12 (bif dOK (g 14) (g 15) (g 16) (upd (g 12) k (mx ((g 12) k) lo)) (upd (g 13) k (mn ((g 13) k) hi)) (z 1) then (upd (g 12) k (mx ((g 12) k) lo)) else (g 12))) 13 (bif dOK (g 14) (g 15) (g 16) (upd (g 12) k (mx ((g 12) k) lo)) (upd (g 13) k (mn ((g 13) k) hi)) (z 1) then (upd (g 13) k (mn ((g 13) k) hi)) else (g 13))) 17 (bif dOK (g 14) (g 15) (g 16) (upd (g 12) k (mx ((g 12) k) lo)) (upd (g 13) k (mn ((g 13) k) hi)) (z 1) then itF (g 14) (g 15) (g 16) (upd (g 12) k (mx ((g 12) k) lo)) (z 1) 16 else (g 17))) 18 (bif dOK (g 14) (g 15) (g 16) (upd (g 12) k (mx ((g 12) k) lo)) (upd (g 13) k (mn ((g 13) k) hi)) (z 1) then itL (g 14) (g 15) (g 16) (upd (g 13) k (mn ((g 13) k) hi)) (z 1) 16 else (g 18))) 19 (itF (g 14) (g 15) (g 16) (upd (g 12) k (mx ((g 12) k) lo)) (z 1) 16)) 20 (itL (g 14) (g 15) (g 16) (upd (g 13) k (mn ((g 13) k) hi)) (z 1) 16)) z) := by
  refine q_startI RX4 (by decide +kernel) rfl (Nat.le_of_ble_eq_true rfl) ?_
  intro p e s m below meth c A args H locs ls hx hb hr hml hown hT hlk hP hK hD hA hS hl
  have hl : lv_has ls 5 [(0, .ref (ad 71)), (1, .int (nI k)), (2, .int lo), (3, .int hi)] := hl
  refine lv_aload_n hx hb dX4_narrow_0 rfl (lv_at hl 0 rfl) ?_
  refine lv_iload_n hx hb dX4_narrow_1 rfl (lv_at hl 1 rfl) ?_
  refine lv_iload_n hx hb dX4_narrow_2 rfl (lv_at hl 2 rfl) ?_
  refine lv_iload_n hx hb dX4_narrow_3 rfl (lv_at hl 3 rfl) ?_
  refine q_callIW (As := [.int (nI k), .int lo, .int hi]) (r := vd (dOK (g 14) (g 15) (g 16) (upd (g 12) k (mx ((g 12) k) lo)) (upd (g 13) k (mn ((g 13) k) hi)) (z 1)) (dMV (g 14) (g 15) (g 16) (upd (g 12) k (mx ((g 12) k) lo)) (upd (g 13) k (mn ((g 13) k) hi)) (g 17) (g 18) (z 1))) (w1 := yrW cA ad (gs (gs g 19 (itF (g 14) (g 15) (g 16) (upd (g 12) k (mx ((g 12) k) lo)) (z 1) 16)) 20 (itL (g 14) (g 15) (g 16) (upd (g 13) k (mn ((g 13) k) hi)) (z 1) 16)) z) hx hb hml hown hT hK hP hD hS hA (c_X4_tryNarrow l D cA ad g z k lo hi (show k < 16 by omega) hE (show (z 1) ≤ 40 by omega)) k_X4_tryNarrow kl_X4_69 (q0 := 0) rfl rfl rfl ((yrW_adr _ _ _ _).trans (yrW_adr _ _ _ _).symm) hl rfl rfl (Nat.le_of_ble_eq_true rfl) ⟨⟨rfl, rfl⟩, Nat.le_of_ble_eq_true rfl, Nat.le_of_ble_eq_true rfl⟩ ⟨Nat.zero_le _, Nat.zero_le _⟩ dX4_narrow_4 (fun H locs hP hD hS => ?_)
  obtain ⟨nF4_19, enF4_19⟩ : ∃ y : Nat → Int32, y = itF (g 14) (g 15) (g 16) (upd (g 12) k (mx ((g 12) k) lo)) (z 1) 16 := ⟨_, rfl⟩
  have hP : va_P D vwCl (yrW cA ad (gs (gs g 19 nF4_19) 20 (itL (g 14) (g 15) (g 16) (upd (g 13) k (mn ((g 13) k) hi)) (z 1) 16)) z) H := by rw [enF4_19]; exact hP
  have hD : va_D A (yrW cA ad (gs (gs g 19 nF4_19) 20 (itL (g 14) (g 15) (g 16) (upd (g 13) k (mn ((g 13) k) hi)) (z 1) 16)) z) := by rw [enF4_19]; exact hD
  obtain ⟨nF4_20, enF4_20⟩ : ∃ y : Nat → Int32, y = itL (g 14) (g 15) (g 16) (upd (g 13) k (mn ((g 13) k) hi)) (z 1) 16 := ⟨_, rfl⟩
  have hP : va_P D vwCl (yrW cA ad (gs (gs g 19 nF4_19) 20 nF4_20) z) H := by rw [enF4_20]; exact hP
  have hD : va_D A (yrW cA ad (gs (gs g 19 nF4_19) 20 nF4_20) z) := by rw [enF4_20]; exact hD
  refine lv_istore (lv' := [(4, .int (vd (dOK (g 14) (g 15) (g 16) (upd (g 12) k (mx ((g 12) k) lo)) (upd (g 13) k (mn ((g 13) k) hi)) (z 1)) (dMV (g 14) (g 15) (g 16) (upd (g 12) k (mx ((g 12) k) lo)) (upd (g 13) k (mn ((g 13) k) hi)) (g 17) (g 18) (z 1)))), (0, .ref (ad 71)), (1, .int (nI k)), (2, .int lo), (3, .int hi)]) hx hb dX4_narrow_7 hl (by decide) rfl (fun ls hl => ?_)
  refine lv_iload hx hb dX4_narrow_9 (lv_at hl 0 rfl) ?_
  refine lv_iconst (v := (-1)) hx hb dX4_narrow_11 (by decide +kernel) ?_
  refine lv_icmp_eq (tgt := 59) hx hb dX4_narrow_12 (by decide) (fun c_12 => ?_) (fun c_12 => ?_)
  · have d_12 := vd_m1 dMV_le c_12
    refine lv_iload hx hb dX4_narrow_59 (lv_at hl 0 rfl) ?_
    rw [enF4_20] at hP hD
    rw [enF4_19] at hP hD
    exact q_iret hx hb hr hlk (by rfl) (va_cast' hP (by rw [d_12]; rfl)) hS dX4_narrow_61
  · have d_12 := vd_ok c_12
    refine lv_aload_n hx hb dX4_narrow_15 rfl (lv_at hl 1 rfl) ?_
    refine q_get hx hb hT hown hK hP kw_X4 0 rfl rfl 0 (by decide) kf_X4_14 rfl (v := .ref (ad 12)) rfl dX4_narrow_16 ?_
    refine lv_iload_n hx hb dX4_narrow_19 rfl (lv_at hl 2 rfl) ?_
    refine lv_aload_n hx hb dX4_narrow_20 rfl (lv_at hl 1 rfl) ?_
    refine q_get hx hb hT hown hK hP kw_X4 0 rfl rfl 0 (by decide) kf_X4_14 rfl (v := .ref (ad 12)) rfl dX4_narrow_21 ?_
    refine lv_iload_n hx hb dX4_narrow_24 rfl (lv_at hl 2 rfl) ?_
    refine q_callI (As := [.int (nI k)]) (r := g 12 k) (wc := rowW cA (ad 12) (ad 42) 16 (g 12)) (w1 := rowW cA (ad 12) (ad 42) 16 (g 12)) (ws1 := yrW cA ad (gs (gs g 19 nF4_19) 20 nF4_20) z) hx hb hml hown hT hK hP hD hS hA (c_X3_atN l D cA (ad 12) (ad 42) 16 (g 12) k (by omega) (by omega)) k_X3_at kl_X4_54 (q0 := 0) rfl rfl rfl [1, 2] rfl rfl rfl rfl hl rfl rfl (Nat.le_of_ble_eq_true rfl) ⟨⟨rfl, rfl⟩, Nat.le_of_ble_eq_true rfl, Nat.le_of_ble_eq_true rfl⟩ ⟨Nat.zero_le _, Nat.zero_le _⟩ dX4_narrow_25 (fun H locs hP hD hS => ?_)
    refine lv_iload_n hx hb dX4_narrow_28 rfl (lv_at hl 3 rfl) ?_
    refine q_max hx hb hml hown hT hl kl_X4_73 (Nat.le_of_ble_eq_true rfl) (Nat.le_of_ble_eq_true rfl) ⟨Nat.zero_le _, Nat.zero_le _⟩ dX4_narrow_29 ?_
    refine q_top (y := mx ((g 12) k) lo) (rfl) ?_
    refine q_callV (As := [.int (nI k), .int (mx ((g 12) k) lo)]) (wc := rowW cA (ad 12) (ad 42) 16 (g 12)) (w1 := rowW cA (ad 12) (ad 42) 16 (upd (g 12) k (mx ((g 12) k) lo))) (ws1 := yrW cA ad (gs (gs (gs g 12 (upd (g 12) k (mx ((g 12) k) lo))) 19 nF4_19) 20 nF4_20) z) hx hb hml hown hT hK hP hD hS hA (c_X3_putN l D cA (ad 12) (ad 42) 16 (g 12) k (mx ((g 12) k) lo) (by omega) (by omega)) k_X3_put kl_X4_58 (q0 := 0) rfl rfl rfl [1, 2] rfl rfl rfl rfl hl rfl rfl (Nat.le_of_ble_eq_true rfl) ⟨⟨rfl, rfl⟩, Nat.le_of_ble_eq_true rfl, Nat.le_of_ble_eq_true rfl⟩ ⟨Nat.zero_le _, Nat.zero_le _⟩ dX4_narrow_32 (fun H locs hP hD hS => ?_)
    obtain ⟨nF32_12, enF32_12⟩ : ∃ y : Nat → Int32, y = upd (g 12) k (mx ((g 12) k) lo) := ⟨_, rfl⟩
    have hP : va_P D vwCl (yrW cA ad (gs (gs (gs g 12 nF32_12) 19 nF4_19) 20 nF4_20) z) H := by rw [enF32_12]; exact hP
    have hD : va_D A (yrW cA ad (gs (gs (gs g 12 nF32_12) 19 nF4_19) 20 nF4_20) z) := by rw [enF32_12]; exact hD
    refine lv_aload_n hx hb dX4_narrow_35 rfl (lv_at hl 1 rfl) ?_
    refine q_get hx hb hT hown hK hP kw_X4 0 rfl rfl 1 (by decide) kf_X4_20 rfl (v := .ref (ad 13)) rfl dX4_narrow_36 ?_
    refine lv_iload_n hx hb dX4_narrow_39 rfl (lv_at hl 2 rfl) ?_
    refine lv_aload_n hx hb dX4_narrow_40 rfl (lv_at hl 1 rfl) ?_
    refine q_get hx hb hT hown hK hP kw_X4 0 rfl rfl 1 (by decide) kf_X4_20 rfl (v := .ref (ad 13)) rfl dX4_narrow_41 ?_
    refine lv_iload_n hx hb dX4_narrow_44 rfl (lv_at hl 2 rfl) ?_
    refine q_callI (As := [.int (nI k)]) (r := g 13 k) (wc := rowW cA (ad 13) (ad 43) 16 (g 13)) (w1 := rowW cA (ad 13) (ad 43) 16 (g 13)) (ws1 := yrW cA ad (gs (gs (gs g 12 nF32_12) 19 nF4_19) 20 nF4_20) z) hx hb hml hown hT hK hP hD hS hA (c_X3_atN l D cA (ad 13) (ad 43) 16 (g 13) k (by omega) (by omega)) k_X3_at kl_X4_54 (q0 := 0) rfl rfl rfl [3, 4] rfl rfl rfl rfl hl rfl rfl (Nat.le_of_ble_eq_true rfl) ⟨⟨rfl, rfl⟩, Nat.le_of_ble_eq_true rfl, Nat.le_of_ble_eq_true rfl⟩ ⟨Nat.zero_le _, Nat.zero_le _⟩ dX4_narrow_45 (fun H locs hP hD hS => ?_)
    refine lv_iload_n hx hb dX4_narrow_48 rfl (lv_at hl 4 rfl) ?_
    refine q_min hx hb hml hown hT hl kl_X4_79 (Nat.le_of_ble_eq_true rfl) (Nat.le_of_ble_eq_true rfl) ⟨Nat.zero_le _, Nat.zero_le _⟩ dX4_narrow_49 ?_
    refine q_top (y := mn ((g 13) k) hi) (rfl) ?_
    refine q_callV (As := [.int (nI k), .int (mn ((g 13) k) hi)]) (wc := rowW cA (ad 13) (ad 43) 16 (g 13)) (w1 := rowW cA (ad 13) (ad 43) 16 (upd (g 13) k (mn ((g 13) k) hi))) (ws1 := yrW cA ad (gs (gs (gs (gs g 12 nF32_12) 13 (upd (g 13) k (mn ((g 13) k) hi))) 19 nF4_19) 20 nF4_20) z) hx hb hml hown hT hK hP hD hS hA (c_X3_putN l D cA (ad 13) (ad 43) 16 (g 13) k (mn ((g 13) k) hi) (by omega) (by omega)) k_X3_put kl_X4_58 (q0 := 0) rfl rfl rfl [3, 4] rfl rfl rfl rfl hl rfl rfl (Nat.le_of_ble_eq_true rfl) ⟨⟨rfl, rfl⟩, Nat.le_of_ble_eq_true rfl, Nat.le_of_ble_eq_true rfl⟩ ⟨Nat.zero_le _, Nat.zero_le _⟩ dX4_narrow_52 (fun H locs hP hD hS => ?_)
    obtain ⟨nF52_13, enF52_13⟩ : ∃ y : Nat → Int32, y = upd (g 13) k (mn ((g 13) k) hi) := ⟨_, rfl⟩
    have hP : va_P D vwCl (yrW cA ad (gs (gs (gs (gs g 12 nF32_12) 13 nF52_13) 19 nF4_19) 20 nF4_20) z) H := by rw [enF52_13]; exact hP
    have hD : va_D A (yrW cA ad (gs (gs (gs (gs g 12 nF32_12) 13 nF52_13) 19 nF4_19) 20 nF4_20) z) := by rw [enF52_13]; exact hD
    refine lv_aload_n hx hb dX4_narrow_55 rfl (lv_at hl 1 rfl) ?_
    refine q_callVW (As := []) (w1 := yrW cA ad (gs (gs (gs (gs (gs (gs g 12 nF32_12) 13 nF52_13) 17 nF4_19) 18 nF4_20) 19 nF4_19) 20 nF4_20) z) hx hb hml hown hT hK hP hD hS hA (c_X4_keepTried l D cA ad (gs (gs (gs (gs g 12 nF32_12) 13 nF52_13) 19 nF4_19) 20 nF4_20) z) k_X4_keepTried kl_X4_66 (q0 := 0) rfl rfl rfl ((yrW_adr _ _ _ _).trans (yrW_adr _ _ _ _).symm) hl rfl rfl (Nat.le_of_ble_eq_true rfl) ⟨⟨rfl, rfl⟩, Nat.le_of_ble_eq_true rfl, Nat.le_of_ble_eq_true rfl⟩ ⟨Nat.zero_le _, Nat.zero_le _⟩ dX4_narrow_56 (fun H locs hP hD hS => ?_)
    refine lv_iload hx hb dX4_narrow_59 (lv_at hl 0 rfl) ?_
    rw [enF52_13] at hP hD
    rw [enF32_12] at hP hD
    rw [enF4_20] at hP hD
    rw [enF4_19] at hP hD
    exact q_iret hx hb hr hlk (by rfl) (va_cast' hP (by rw [d_12]; rfl)) hS dX4_narrow_61
