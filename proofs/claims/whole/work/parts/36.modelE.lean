abbrev rm_X6_ahead : Room := { frames := 2, cells := 0, slots := 0, locals := 43 }
set_option maxRecDepth 100000 in
set_option maxHeartbeats 4000000 in
theorem c_X6_ahead (l : Launch) (D : va_G) (cA : ClassId) (ad : Nat → Nat) (g : Nat → Nat → Int32) (z : Nat → Nat) (i : Nat) (j : Nat) (w : Int32) (u0 : Nat) (dF : Nat → Int32) (dL : Nat → Int32) (hi : i < (z 0)) (hj : j < (z 0)) (hc : (z 0) ≤ 16) (hne : ¬ i = j) (hw9 : ¬ w < (-50) ∧ w ≤ nI 50) (hE : ∀ k, k < (z 1) → q_r ((g 14) k) 16 ∧ q_r ((g 15) k) 16) (ht : (z 1) < 40) (hst : dtH u0 (upd (g 14) (z 1) (nI i)) (upd (g 15) (z 1) (nI j)) (upd (g 16) (z 1) w) (g 12) (g 13) (g 19) (g 20) ((z 1) + 1) (z 0)) (hdt : (dtD u0 (upd (g 14) (z 1) (nI i)) (upd (g 15) (z 1) (nI j)) (upd (g 16) (z 1) w) (g 12) (g 13) (g 19) (g 20) ((z 1) + 1) (z 0)).1 = dF ∧ (dtD u0 (upd (g 14) (z 1) (nI i)) (upd (g 15) (z 1) (nI j)) (upd (g 16) (z 1) w) (g 12) (g 13) (g 19) (g 20) ((z 1) + 1) (z 0)).2.1 = dL ∧ (dtD u0 (upd (g 14) (z 1) (nI i)) (upd (g 15) (z 1) (nI j)) (upd (g 16) (z 1) w) (g 12) (g 13) (g 19) (g 20) ((z 1) + 1) (z 0)).2.2.1 = true) : q_CI l yX6_ahead [Cond.code yX6_ahead cX6_ahead 5 (some .int)] rm_X6_ahead D cA [.ref (ad 80), .int (nI i), .int (nI j), .int w] (mdW cA ad g z) (nI (mvd dF dL (g 17) (g 18) (z 0))) (mdW cA ad (gs (gs (gs (gs (gs (gs (gs g 14 (upd (g 14) (z 1) (nI i))) 15 (upd (g 15) (z 1) (nI j))) 16 (upd (g 16) (z 1) w)) 17 (copyTo (g 17) dF (z 0))) 18 (copyTo (g 18) dL (z 0))) 19 dF) 20 dL) (zs (zs z 1 ((z 1) + 1)) 4 0)) := by
  refine q_startI RX6 (by decide +kernel) rfl (Nat.le_of_ble_eq_true rfl) ?_
  intro p e s m below meth c A args H locs ls hx hb hr hml hown hT hlk hP hK hD hA hS hl
  have hl : lv_has ls 5 [(0, .ref (ad 80)), (1, .int (nI i)), (2, .int (nI j)), (3, .int w)] := hl
  refine lv_aload_n hx hb dX6_ahead_0 rfl (lv_at hl 0 rfl) ?_
  refine lv_aload_n hx hb dX6_ahead_1 rfl (lv_at hl 0 rfl) ?_
  refine lv_iload_n hx hb dX6_ahead_2 rfl (lv_at hl 1 rfl) ?_
  refine q_callIW (As := [.int (nI i)]) (r := q_b (mB (nI i) (z 0))) (w1 := mdW cA ad g z) hx hb hml hown hT hK hP hD hS hA (c_X6_isMention l D cA ad g z (nI i) (show (z 0) ≤ 16 by omega)) k_X6_isMention kl_X6_111 (q0 := 0) rfl rfl rfl ((mdW_adr _ _ _ _).trans (mdW_adr _ _ _ _).symm) hl rfl rfl (Nat.le_of_ble_eq_true rfl) ⟨⟨rfl, rfl⟩, Nat.le_of_ble_eq_true rfl, Nat.le_of_ble_eq_true rfl⟩ ⟨Nat.zero_le _, Nat.zero_le _⟩ dX6_ahead_3 (fun H locs hP hD hS => ?_)
  refine lv_if_eq (tgt := 17) hx hb dX6_ahead_6 (by decide) (fun c_6 => ?_) (fun c_6 => ?_)
  · have c_6 := q_b0e c_6
    exact absurd c_6 (mB_F (q_r_nI (by omega)) (by omega))
  · have c_6 := q_b0n c_6
    refine lv_aload_n hx hb dX6_ahead_9 rfl (lv_at hl 0 rfl) ?_
    refine lv_iload_n hx hb dX6_ahead_10 rfl (lv_at hl 2 rfl) ?_
    refine q_callIW (As := [.int (nI j)]) (r := q_b (mB (nI j) (z 0))) (w1 := mdW cA ad g z) hx hb hml hown hT hK hP hD hS hA (c_X6_isMention l D cA ad g z (nI j) (show (z 0) ≤ 16 by omega)) k_X6_isMention kl_X6_111 (q0 := 0) rfl rfl rfl ((mdW_adr _ _ _ _).trans (mdW_adr _ _ _ _).symm) hl rfl rfl (Nat.le_of_ble_eq_true rfl) ⟨⟨rfl, rfl⟩, Nat.le_of_ble_eq_true rfl, Nat.le_of_ble_eq_true rfl⟩ ⟨Nat.zero_le _, Nat.zero_le _⟩ dX6_ahead_11 (fun H locs hP hD hS => ?_)
    refine lv_if_ne (tgt := 21) hx hb dX6_ahead_14 (by decide) (fun c_14 => ?_) (fun c_14 => ?_)
    · have c_14 := q_b0n c_14
      refine lv_iload_n hx hb dX6_ahead_21 rfl (lv_at hl 1 rfl) ?_
      refine lv_iload_n hx hb dX6_ahead_22 rfl (lv_at hl 2 rfl) ?_
      refine lv_icmp_eq (tgt := 37) hx hb dX6_ahead_23 (by decide) (fun c_23 => ?_) (fun c_23 => ?_)
      · have c_23 := nI_eq1 (a := i) (b := j) (by omega) (by omega) c_23
        exfalso; omega
      · have c_23 := nI_eq0 (a := i) (b := j) (by omega) (by omega) c_23
        refine lv_iload_n hx hb dX6_ahead_26 rfl (lv_at hl 3 rfl) ?_
        refine lv_bipush (v := (-50)) hx hb dX6_ahead_27 (by decide +kernel) ?_
        refine lv_bipush (v := nI 50) hx hb dX6_ahead_29 (by decide +kernel) ?_
        refine q_callSI (As := [.int w, .int (-50), .int (nI 50)]) (r := q_b (iN w (-50) (nI 50))) hx hb hml hown hT hK hP hD hS hA (c_X6_isIn l D cA w (-50) (nI 50)) k_X6_isIn kl_X6_89 hl rfl rfl (Nat.le_of_ble_eq_true rfl) ⟨⟨rfl, rfl⟩, Nat.le_of_ble_eq_true rfl, Nat.le_of_ble_eq_true rfl⟩ ⟨Nat.zero_le _, Nat.zero_le _⟩ dX6_ahead_31 (fun H locs hP hD hS => ?_)
        refine lv_if_ne (tgt := 41) hx hb dX6_ahead_34 (by decide) (fun c_34 => ?_) (fun c_34 => ?_)
        · have c_34 := q_b0n c_34
          refine lv_aload_n hx hb dX6_ahead_41 rfl (lv_at hl 0 rfl) ?_
          refine q_get hx hb hT hown hK hP kw_X6 0 rfl rfl 17 (by decide) kf_X6_108 rfl (v := .int (nI (z 1))) rfl dX6_ahead_42 ?_
          refine lv_bipush (v := nI 40) hx hb dX6_ahead_45 (by decide +kernel) ?_
          refine lv_icmp_ne (tgt := 54) hx hb dX6_ahead_47 (by decide) (fun c_47 => ?_) (fun c_47 => ?_)
          · have c_47 := nI_eq0 (a := z 1) (b := 40) (by omega) (by omega) c_47
            refine lv_iconst (v := nI 0) hx hb dX6_ahead_54 (by decide +kernel) ?_
            refine q_put (ty := .int) (ws1 := mdW cA ad g (zs z 4 0)) hx hb hT hown hK hP hD hS kw_X6 tyX6_ok nmX6 0 rfl rfl 27 (by decide) kf_X6_82 rfl rfl (by decide +kernel) rfl rfl (Nat.le_of_ble_eq_true rfl) rfl dX6_ahead_55 (fun H locs hP hD hS => ?_)
            refine lv_aload_n hx hb dX6_ahead_58 rfl (lv_at hl 0 rfl) ?_
            refine q_get hx hb hT hown hK hP kw_X6 0 rfl rfl 27 (by decide) kf_X6_82 rfl (v := .int (nI 0)) rfl dX6_ahead_59 ?_
            refine lv_if_le (tgt := 67) hx hb dX6_ahead_62 (by decide) (fun c_62 => ?_) (fun c_62 => ?_)
            · have c_62 := nI_le1 (a := 0) (b := 0) (by omega) (by omega) c_62
              refine lv_aload_n hx hb dX6_ahead_67 rfl (lv_at hl 0 rfl) ?_
              refine q_get hx hb hT hown hK hP kw_X6 0 rfl rfl 18 (by decide) kf_X6_58 rfl (v := .ref (ad 14)) rfl dX6_ahead_68 ?_
              refine lv_aload_n hx hb dX6_ahead_71 rfl (lv_at hl 0 rfl) ?_
              refine q_get hx hb hT hown hK hP kw_X6 0 rfl rfl 17 (by decide) kf_X6_108 rfl (v := .int (nI (z 1))) rfl dX6_ahead_72 ?_
              refine lv_iload_n hx hb dX6_ahead_75 rfl (lv_at hl 1 rfl) ?_
              refine q_iast (f := g 14) (ws1 := mdW cA ad (gs g 14 (upd (g 14) (z 1) (nI i))) (zs z 4 0)) hx hb hK hP hD hS 17 0 rfl rfl (z 1) rfl (by omega) (by omega) rfl dX6_ahead_76 (fun H locs hP hD hS => ?_)
              refine lv_aload_n hx hb dX6_ahead_77 rfl (lv_at hl 0 rfl) ?_
              refine q_get hx hb hT hown hK hP kw_X6 0 rfl rfl 19 (by decide) kf_X6_61 rfl (v := .ref (ad 15)) rfl dX6_ahead_78 ?_
              refine lv_aload_n hx hb dX6_ahead_81 rfl (lv_at hl 0 rfl) ?_
              refine q_get hx hb hT hown hK hP kw_X6 0 rfl rfl 17 (by decide) kf_X6_108 rfl (v := .int (nI (z 1))) rfl dX6_ahead_82 ?_
              refine lv_iload_n hx hb dX6_ahead_85 rfl (lv_at hl 2 rfl) ?_
              refine q_iast (f := g 15) (ws1 := mdW cA ad (gs (gs g 14 (upd (g 14) (z 1) (nI i))) 15 (upd (g 15) (z 1) (nI j))) (zs z 4 0)) hx hb hK hP hD hS 18 0 rfl rfl (z 1) rfl (by omega) (by omega) rfl dX6_ahead_86 (fun H locs hP hD hS => ?_)
              refine lv_aload_n hx hb dX6_ahead_87 rfl (lv_at hl 0 rfl) ?_
              refine q_get hx hb hT hown hK hP kw_X6 0 rfl rfl 20 (by decide) kf_X6_64 rfl (v := .ref (ad 16)) rfl dX6_ahead_88 ?_
              refine lv_aload_n hx hb dX6_ahead_91 rfl (lv_at hl 0 rfl) ?_
              refine q_get hx hb hT hown hK hP kw_X6 0 rfl rfl 17 (by decide) kf_X6_108 rfl (v := .int (nI (z 1))) rfl dX6_ahead_92 ?_
              refine lv_iload_n hx hb dX6_ahead_95 rfl (lv_at hl 3 rfl) ?_
              refine q_iast (f := g 16) (ws1 := mdW cA ad (gs (gs (gs g 14 (upd (g 14) (z 1) (nI i))) 15 (upd (g 15) (z 1) (nI j))) 16 (upd (g 16) (z 1) w)) (zs z 4 0)) hx hb hK hP hD hS 19 0 rfl rfl (z 1) rfl (by omega) (by omega) rfl dX6_ahead_96 (fun H locs hP hD hS => ?_)
              refine lv_aload_n hx hb dX6_ahead_97 rfl (lv_at hl 0 rfl) ?_
              refine lv_dup hx hb dX6_ahead_98 rfl ?_
              refine q_get hx hb hT hown hK hP kw_X6 0 rfl rfl 17 (by decide) kf_X6_108 rfl (v := .int (nI (z 1))) rfl dX6_ahead_99 ?_
              refine lv_iconst (v := nI 1) hx hb dX6_ahead_102 (by decide +kernel) ?_
              refine lv_iadd hx hb dX6_ahead_103 ?_
              refine q_top (y := nI (z 1 + 1)) (nI_add _ _) ?_
              refine q_put (ty := .int) (ws1 := mdW cA ad (gs (gs (gs g 14 (upd (g 14) (z 1) (nI i))) 15 (upd (g 15) (z 1) (nI j))) 16 (upd (g 16) (z 1) w)) (zs (zs z 1 (z 1 + 1)) 4 0)) hx hb hT hown hK hP hD hS kw_X6 tyX6_ok nmX6 0 rfl rfl 17 (by decide) kf_X6_108 rfl rfl (by decide +kernel) rfl rfl (Nat.le_of_ble_eq_true rfl) rfl dX6_ahead_104 (fun H locs hP hD hS => ?_)
              refine lv_aload_n hx hb dX6_ahead_107 rfl (lv_at hl 0 rfl) ?_
              refine q_callIW (As := []) (r := q_b true) (w1 := mdW cA ad (gs (gs (gs (gs (gs g 14 (upd (g 14) (z 1) (nI i))) 15 (upd (g 15) (z 1) (nI j))) 16 (upd (g 16) (z 1) w)) 19 dF) 20 dL) (zs (zs z 1 (z 1 + 1)) 4 0)) hx hb hml hown hT hK hP hD hS hA (c_X6_datesv l D cA ad (gs (gs (gs g 14 (upd (g 14) (z 1) (nI i))) 15 (upd (g 15) (z 1) (nI j))) 16 (upd (g 16) (z 1) w)) (zs (zs z 1 (z 1 + 1)) 4 0) u0 dF dL true (show (z 0) ≤ 16 by omega) (hE_add hE (i := i) (j := j) (by omega) (by omega)) (show (z 1 + 1) ≤ 40 by omega) hst hdt) k_X6_dates kl_X6_114 (q0 := 0) rfl rfl rfl ((mdW_adr _ _ _ _).trans (mdW_adr _ _ _ _).symm) hl rfl rfl (Nat.le_of_ble_eq_true rfl) ⟨⟨rfl, rfl⟩, Nat.le_of_ble_eq_true rfl, Nat.le_of_ble_eq_true rfl⟩ ⟨Nat.zero_le _, Nat.zero_le _⟩ dX6_ahead_108 (fun H locs hP hD hS => ?_)
              refine lv_if_ne (tgt := 131) hx hb dX6_ahead_111 (by decide) (fun c_111 => ?_) (fun c_111 => ?_)
              · have c_111 := q_b0n c_111
                refine lv_aload_n hx hb dX6_ahead_131 rfl (lv_at hl 0 rfl) ?_
                refine q_callIW (As := []) (r := nI (mvd dF dL (g 17) (g 18) (z 0))) (w1 := mdW cA ad (gs (gs (gs (gs (gs g 14 (upd (g 14) (z 1) (nI i))) 15 (upd (g 15) (z 1) (nI j))) 16 (upd (g 16) (z 1) w)) 19 dF) 20 dL) (zs (zs z 1 (z 1 + 1)) 4 0)) hx hb hml hown hT hK hP hD hS hA (c_X6_moves l D cA ad (gs (gs (gs (gs (gs g 14 (upd (g 14) (z 1) (nI i))) 15 (upd (g 15) (z 1) (nI j))) 16 (upd (g 16) (z 1) w)) 19 dF) 20 dL) (zs (zs z 1 (z 1 + 1)) 4 0) (show (z 0) ≤ 16 by omega)) k_X6_moves kl_X6_118 (q0 := 0) rfl rfl rfl ((mdW_adr _ _ _ _).trans (mdW_adr _ _ _ _).symm) hl rfl rfl (Nat.le_of_ble_eq_true rfl) ⟨⟨rfl, rfl⟩, Nat.le_of_ble_eq_true rfl, Nat.le_of_ble_eq_true rfl⟩ ⟨Nat.zero_le _, Nat.zero_le _⟩ dX6_ahead_132 (fun H locs hP hD hS => ?_)
                refine lv_istore (lv' := [(4, .int (nI (mvd dF dL (g 17) (g 18) (z 0)))), (0, .ref (ad 80)), (1, .int (nI i)), (2, .int (nI j)), (3, .int w)]) hx hb dX6_ahead_135 hl (by decide) rfl (fun ls hl => ?_)
                refine lv_aload_n hx hb dX6_ahead_137 rfl (lv_at hl 1 rfl) ?_
                refine q_callVW (As := []) (w1 := mdW cA ad (gs (gs (gs (gs (gs (gs (gs g 14 (upd (g 14) (z 1) (nI i))) 15 (upd (g 15) (z 1) (nI j))) 16 (upd (g 16) (z 1) w)) 17 (copyTo (g 17) dF (z 0))) 18 (copyTo (g 18) dL (z 0))) 19 dF) 20 dL) (zs (zs z 1 (z 1 + 1)) 4 0)) hx hb hml hown hT hK hP hD hS hA (c_X6_keeps l D cA ad (gs (gs (gs (gs (gs g 14 (upd (g 14) (z 1) (nI i))) 15 (upd (g 15) (z 1) (nI j))) 16 (upd (g 16) (z 1) w)) 19 dF) 20 dL) (zs (zs z 1 (z 1 + 1)) 4 0) (show (z 0) ≤ 16 by omega)) k_X6_keeps kl_X6_122 (q0 := 0) rfl rfl rfl ((mdW_adr _ _ _ _).trans (mdW_adr _ _ _ _).symm) hl rfl rfl (Nat.le_of_ble_eq_true rfl) ⟨⟨rfl, rfl⟩, Nat.le_of_ble_eq_true rfl, Nat.le_of_ble_eq_true rfl⟩ ⟨Nat.zero_le _, Nat.zero_le _⟩ dX6_ahead_138 (fun H locs hP hD hS => ?_)
                refine lv_iload hx hb dX6_ahead_141 (lv_at hl 0 rfl) ?_
                exact q_iret hx hb hr hlk (by rfl) (va_cast' hP (by rfl)) hS dX6_ahead_143
              · have c_111 := q_b0e c_111
                exact absurd c_111 (by decide)
            · have c_62 := nI_le0 (a := 0) (b := 0) (by omega) (by omega) c_62
              exfalso; omega
          · have c_47 := nI_eq1 (a := z 1) (b := 40) (by omega) (by omega) c_47
            exfalso; omega
        · have c_34 := q_b0e c_34
          exact absurd c_34 (by rw [iN_t hw9]; decide)
    · have c_14 := q_b0e c_14
      exact absurd c_14 (mB_F (q_r_nI (by omega)) (by omega))
abbrev rm_X6_aheadx6 : Room := { frames := 2, cells := 0, slots := 0, locals := 43 }
set_option maxRecDepth 100000 in
set_option maxHeartbeats 4000000 in
theorem c_X6_aheadx6 (l : Launch) (D : va_G) (cA : ClassId) (ad : Nat → Nat) (g : Nat → Nat → Int32) (z : Nat → Nat) (i : Nat) (j : Nat) (w : Int32) (u0 : Nat) (dF : Nat → Int32) (dL : Nat → Int32) (hi : i < (z 0)) (hj : j < (z 0)) (hc : (z 0) ≤ 16) (hne : ¬ i = j) (hw9 : ¬ w < (-50) ∧ w ≤ nI 50) (hE : ∀ k, k < (z 1) → q_r ((g 14) k) 16 ∧ q_r ((g 15) k) 16) (ht : (z 1) < 40) (hst : dtH u0 (upd (g 14) (z 1) (nI i)) (upd (g 15) (z 1) (nI j)) (upd (g 16) (z 1) w) (g 12) (g 13) (g 19) (g 20) ((z 1) + 1) (z 0)) (hdt : (dtD u0 (upd (g 14) (z 1) (nI i)) (upd (g 15) (z 1) (nI j)) (upd (g 16) (z 1) w) (g 12) (g 13) (g 19) (g 20) ((z 1) + 1) (z 0)).1 = dF ∧ (dtD u0 (upd (g 14) (z 1) (nI i)) (upd (g 15) (z 1) (nI j)) (upd (g 16) (z 1) w) (g 12) (g 13) (g 19) (g 20) ((z 1) + 1) (z 0)).2.1 = dL ∧ (dtD u0 (upd (g 14) (z 1) (nI i)) (upd (g 15) (z 1) (nI j)) (upd (g 16) (z 1) w) (g 12) (g 13) (g 19) (g 20) ((z 1) + 1) (z 0)).2.2.1 = false) : q_CI l yX6_ahead [Cond.code yX6_ahead cX6_ahead 5 (some .int)] rm_X6_aheadx6 D cA [.ref (ad 80), .int (nI i), .int (nI j), .int w] (mdW cA ad g z) (nI 0) (mdW cA ad (gs (gs (gs (gs (gs g 14 (upd (g 14) (z 1) (nI i))) 15 (upd (g 15) (z 1) (nI j))) 16 (upd (g 16) (z 1) w)) 19 dF) 20 dL) (zs (zs z 1 (z 1)) 4 3)) := by
  refine q_startI RX6 (by decide +kernel) rfl (Nat.le_of_ble_eq_true rfl) ?_
  intro p e s m below meth c A args H locs ls hx hb hr hml hown hT hlk hP hK hD hA hS hl
  have hl : lv_has ls 5 [(0, .ref (ad 80)), (1, .int (nI i)), (2, .int (nI j)), (3, .int w)] := hl
  refine lv_aload_n hx hb dX6_ahead_0 rfl (lv_at hl 0 rfl) ?_
  refine lv_aload_n hx hb dX6_ahead_1 rfl (lv_at hl 0 rfl) ?_
  refine lv_iload_n hx hb dX6_ahead_2 rfl (lv_at hl 1 rfl) ?_
  refine q_callIW (As := [.int (nI i)]) (r := q_b (mB (nI i) (z 0))) (w1 := mdW cA ad g z) hx hb hml hown hT hK hP hD hS hA (c_X6_isMention l D cA ad g z (nI i) (show (z 0) ≤ 16 by omega)) k_X6_isMention kl_X6_111 (q0 := 0) rfl rfl rfl ((mdW_adr _ _ _ _).trans (mdW_adr _ _ _ _).symm) hl rfl rfl (Nat.le_of_ble_eq_true rfl) ⟨⟨rfl, rfl⟩, Nat.le_of_ble_eq_true rfl, Nat.le_of_ble_eq_true rfl⟩ ⟨Nat.zero_le _, Nat.zero_le _⟩ dX6_ahead_3 (fun H locs hP hD hS => ?_)
  refine lv_if_eq (tgt := 17) hx hb dX6_ahead_6 (by decide) (fun c_6 => ?_) (fun c_6 => ?_)
  · have c_6 := q_b0e c_6
    exact absurd c_6 (mB_F (q_r_nI (by omega)) (by omega))
  · have c_6 := q_b0n c_6
    refine lv_aload_n hx hb dX6_ahead_9 rfl (lv_at hl 0 rfl) ?_
    refine lv_iload_n hx hb dX6_ahead_10 rfl (lv_at hl 2 rfl) ?_
    refine q_callIW (As := [.int (nI j)]) (r := q_b (mB (nI j) (z 0))) (w1 := mdW cA ad g z) hx hb hml hown hT hK hP hD hS hA (c_X6_isMention l D cA ad g z (nI j) (show (z 0) ≤ 16 by omega)) k_X6_isMention kl_X6_111 (q0 := 0) rfl rfl rfl ((mdW_adr _ _ _ _).trans (mdW_adr _ _ _ _).symm) hl rfl rfl (Nat.le_of_ble_eq_true rfl) ⟨⟨rfl, rfl⟩, Nat.le_of_ble_eq_true rfl, Nat.le_of_ble_eq_true rfl⟩ ⟨Nat.zero_le _, Nat.zero_le _⟩ dX6_ahead_11 (fun H locs hP hD hS => ?_)
    refine lv_if_ne (tgt := 21) hx hb dX6_ahead_14 (by decide) (fun c_14 => ?_) (fun c_14 => ?_)
    · have c_14 := q_b0n c_14
      refine lv_iload_n hx hb dX6_ahead_21 rfl (lv_at hl 1 rfl) ?_
      refine lv_iload_n hx hb dX6_ahead_22 rfl (lv_at hl 2 rfl) ?_
      refine lv_icmp_eq (tgt := 37) hx hb dX6_ahead_23 (by decide) (fun c_23 => ?_) (fun c_23 => ?_)
      · have c_23 := nI_eq1 (a := i) (b := j) (by omega) (by omega) c_23
        exfalso; omega
      · have c_23 := nI_eq0 (a := i) (b := j) (by omega) (by omega) c_23
        refine lv_iload_n hx hb dX6_ahead_26 rfl (lv_at hl 3 rfl) ?_
        refine lv_bipush (v := (-50)) hx hb dX6_ahead_27 (by decide +kernel) ?_
        refine lv_bipush (v := nI 50) hx hb dX6_ahead_29 (by decide +kernel) ?_
        refine q_callSI (As := [.int w, .int (-50), .int (nI 50)]) (r := q_b (iN w (-50) (nI 50))) hx hb hml hown hT hK hP hD hS hA (c_X6_isIn l D cA w (-50) (nI 50)) k_X6_isIn kl_X6_89 hl rfl rfl (Nat.le_of_ble_eq_true rfl) ⟨⟨rfl, rfl⟩, Nat.le_of_ble_eq_true rfl, Nat.le_of_ble_eq_true rfl⟩ ⟨Nat.zero_le _, Nat.zero_le _⟩ dX6_ahead_31 (fun H locs hP hD hS => ?_)
        refine lv_if_ne (tgt := 41) hx hb dX6_ahead_34 (by decide) (fun c_34 => ?_) (fun c_34 => ?_)
        · have c_34 := q_b0n c_34
          refine lv_aload_n hx hb dX6_ahead_41 rfl (lv_at hl 0 rfl) ?_
          refine q_get hx hb hT hown hK hP kw_X6 0 rfl rfl 17 (by decide) kf_X6_108 rfl (v := .int (nI (z 1))) rfl dX6_ahead_42 ?_
          refine lv_bipush (v := nI 40) hx hb dX6_ahead_45 (by decide +kernel) ?_
          refine lv_icmp_ne (tgt := 54) hx hb dX6_ahead_47 (by decide) (fun c_47 => ?_) (fun c_47 => ?_)
          · have c_47 := nI_eq0 (a := z 1) (b := 40) (by omega) (by omega) c_47
            refine lv_iconst (v := nI 0) hx hb dX6_ahead_54 (by decide +kernel) ?_
            refine q_put (ty := .int) (ws1 := mdW cA ad g (zs z 4 0)) hx hb hT hown hK hP hD hS kw_X6 tyX6_ok nmX6 0 rfl rfl 27 (by decide) kf_X6_82 rfl rfl (by decide +kernel) rfl rfl (Nat.le_of_ble_eq_true rfl) rfl dX6_ahead_55 (fun H locs hP hD hS => ?_)
            refine lv_aload_n hx hb dX6_ahead_58 rfl (lv_at hl 0 rfl) ?_
            refine q_get hx hb hT hown hK hP kw_X6 0 rfl rfl 27 (by decide) kf_X6_82 rfl (v := .int (nI 0)) rfl dX6_ahead_59 ?_
            refine lv_if_le (tgt := 67) hx hb dX6_ahead_62 (by decide) (fun c_62 => ?_) (fun c_62 => ?_)
            · have c_62 := nI_le1 (a := 0) (b := 0) (by omega) (by omega) c_62
              refine lv_aload_n hx hb dX6_ahead_67 rfl (lv_at hl 0 rfl) ?_
              refine q_get hx hb hT hown hK hP kw_X6 0 rfl rfl 18 (by decide) kf_X6_58 rfl (v := .ref (ad 14)) rfl dX6_ahead_68 ?_
              refine lv_aload_n hx hb dX6_ahead_71 rfl (lv_at hl 0 rfl) ?_
              refine q_get hx hb hT hown hK hP kw_X6 0 rfl rfl 17 (by decide) kf_X6_108 rfl (v := .int (nI (z 1))) rfl dX6_ahead_72 ?_
              refine lv_iload_n hx hb dX6_ahead_75 rfl (lv_at hl 1 rfl) ?_
              refine q_iast (f := g 14) (ws1 := mdW cA ad (gs g 14 (upd (g 14) (z 1) (nI i))) (zs z 4 0)) hx hb hK hP hD hS 17 0 rfl rfl (z 1) rfl (by omega) (by omega) rfl dX6_ahead_76 (fun H locs hP hD hS => ?_)
              refine lv_aload_n hx hb dX6_ahead_77 rfl (lv_at hl 0 rfl) ?_
              refine q_get hx hb hT hown hK hP kw_X6 0 rfl rfl 19 (by decide) kf_X6_61 rfl (v := .ref (ad 15)) rfl dX6_ahead_78 ?_
              refine lv_aload_n hx hb dX6_ahead_81 rfl (lv_at hl 0 rfl) ?_
              refine q_get hx hb hT hown hK hP kw_X6 0 rfl rfl 17 (by decide) kf_X6_108 rfl (v := .int (nI (z 1))) rfl dX6_ahead_82 ?_
              refine lv_iload_n hx hb dX6_ahead_85 rfl (lv_at hl 2 rfl) ?_
              refine q_iast (f := g 15) (ws1 := mdW cA ad (gs (gs g 14 (upd (g 14) (z 1) (nI i))) 15 (upd (g 15) (z 1) (nI j))) (zs z 4 0)) hx hb hK hP hD hS 18 0 rfl rfl (z 1) rfl (by omega) (by omega) rfl dX6_ahead_86 (fun H locs hP hD hS => ?_)
              refine lv_aload_n hx hb dX6_ahead_87 rfl (lv_at hl 0 rfl) ?_
              refine q_get hx hb hT hown hK hP kw_X6 0 rfl rfl 20 (by decide) kf_X6_64 rfl (v := .ref (ad 16)) rfl dX6_ahead_88 ?_
              refine lv_aload_n hx hb dX6_ahead_91 rfl (lv_at hl 0 rfl) ?_
              refine q_get hx hb hT hown hK hP kw_X6 0 rfl rfl 17 (by decide) kf_X6_108 rfl (v := .int (nI (z 1))) rfl dX6_ahead_92 ?_
              refine lv_iload_n hx hb dX6_ahead_95 rfl (lv_at hl 3 rfl) ?_
              refine q_iast (f := g 16) (ws1 := mdW cA ad (gs (gs (gs g 14 (upd (g 14) (z 1) (nI i))) 15 (upd (g 15) (z 1) (nI j))) 16 (upd (g 16) (z 1) w)) (zs z 4 0)) hx hb hK hP hD hS 19 0 rfl rfl (z 1) rfl (by omega) (by omega) rfl dX6_ahead_96 (fun H locs hP hD hS => ?_)
              refine lv_aload_n hx hb dX6_ahead_97 rfl (lv_at hl 0 rfl) ?_
              refine lv_dup hx hb dX6_ahead_98 rfl ?_
              refine q_get hx hb hT hown hK hP kw_X6 0 rfl rfl 17 (by decide) kf_X6_108 rfl (v := .int (nI (z 1))) rfl dX6_ahead_99 ?_
              refine lv_iconst (v := nI 1) hx hb dX6_ahead_102 (by decide +kernel) ?_
              refine lv_iadd hx hb dX6_ahead_103 ?_
              refine q_top (y := nI (z 1 + 1)) (nI_add _ _) ?_
              refine q_put (ty := .int) (ws1 := mdW cA ad (gs (gs (gs g 14 (upd (g 14) (z 1) (nI i))) 15 (upd (g 15) (z 1) (nI j))) 16 (upd (g 16) (z 1) w)) (zs (zs z 1 (z 1 + 1)) 4 0)) hx hb hT hown hK hP hD hS kw_X6 tyX6_ok nmX6 0 rfl rfl 17 (by decide) kf_X6_108 rfl rfl (by decide +kernel) rfl rfl (Nat.le_of_ble_eq_true rfl) rfl dX6_ahead_104 (fun H locs hP hD hS => ?_)
              refine lv_aload_n hx hb dX6_ahead_107 rfl (lv_at hl 0 rfl) ?_
              refine q_callIW (As := []) (r := q_b false) (w1 := mdW cA ad (gs (gs (gs (gs (gs g 14 (upd (g 14) (z 1) (nI i))) 15 (upd (g 15) (z 1) (nI j))) 16 (upd (g 16) (z 1) w)) 19 dF) 20 dL) (zs (zs z 1 (z 1 + 1)) 4 0)) hx hb hml hown hT hK hP hD hS hA (c_X6_datesv l D cA ad (gs (gs (gs g 14 (upd (g 14) (z 1) (nI i))) 15 (upd (g 15) (z 1) (nI j))) 16 (upd (g 16) (z 1) w)) (zs (zs z 1 (z 1 + 1)) 4 0) u0 dF dL false (show (z 0) ≤ 16 by omega) (hE_add hE (i := i) (j := j) (by omega) (by omega)) (show (z 1 + 1) ≤ 40 by omega) hst hdt) k_X6_dates kl_X6_114 (q0 := 0) rfl rfl rfl ((mdW_adr _ _ _ _).trans (mdW_adr _ _ _ _).symm) hl rfl rfl (Nat.le_of_ble_eq_true rfl) ⟨⟨rfl, rfl⟩, Nat.le_of_ble_eq_true rfl, Nat.le_of_ble_eq_true rfl⟩ ⟨Nat.zero_le _, Nat.zero_le _⟩ dX6_ahead_108 (fun H locs hP hD hS => ?_)
              refine lv_if_ne (tgt := 131) hx hb dX6_ahead_111 (by decide) (fun c_111 => ?_) (fun c_111 => ?_)
              · have c_111 := q_b0n c_111
                exact absurd c_111 (by decide)
              · have c_111 := q_b0e c_111
                refine lv_aload_n hx hb dX6_ahead_114 rfl (lv_at hl 0 rfl) ?_
                refine lv_dup hx hb dX6_ahead_115 rfl ?_
                refine q_get hx hb hT hown hK hP kw_X6 0 rfl rfl 17 (by decide) kf_X6_108 rfl (v := .int (nI (z 1 + 1))) rfl dX6_ahead_116 ?_
                refine lv_iconst (v := nI 1) hx hb dX6_ahead_119 (by decide +kernel) ?_
                refine lv_isub hx hb dX6_ahead_120 ?_
                refine q_top (y := nI (z 1)) (q_sub1 _) ?_
                refine q_put (ty := .int) (ws1 := mdW cA ad (gs (gs (gs (gs (gs g 14 (upd (g 14) (z 1) (nI i))) 15 (upd (g 15) (z 1) (nI j))) 16 (upd (g 16) (z 1) w)) 19 dF) 20 dL) (zs (zs z 1 (z 1)) 4 0)) hx hb hT hown hK hP hD hS kw_X6 tyX6_ok nmX6 0 rfl rfl 17 (by decide) kf_X6_108 rfl rfl (by decide +kernel) rfl rfl (Nat.le_of_ble_eq_true rfl) rfl dX6_ahead_121 (fun H locs hP hD hS => ?_)
                refine lv_aload_n hx hb dX6_ahead_124 rfl (lv_at hl 0 rfl) ?_
                refine lv_iconst (v := nI 3) hx hb dX6_ahead_125 (by decide +kernel) ?_
                refine q_put (ty := .int) (ws1 := mdW cA ad (gs (gs (gs (gs (gs g 14 (upd (g 14) (z 1) (nI i))) 15 (upd (g 15) (z 1) (nI j))) 16 (upd (g 16) (z 1) w)) 19 dF) 20 dL) (zs (zs z 1 (z 1)) 4 3)) hx hb hT hown hK hP hD hS kw_X6 tyX6_ok nmX6 0 rfl rfl 27 (by decide) kf_X6_82 rfl rfl (by decide +kernel) rfl rfl (Nat.le_of_ble_eq_true rfl) rfl dX6_ahead_126 (fun H locs hP hD hS => ?_)
                refine lv_iconst (v := nI 0) hx hb dX6_ahead_129 (by decide +kernel) ?_
                exact q_iret hx hb hr hlk (by rfl) hP hS dX6_ahead_130
            · have c_62 := nI_le0 (a := 0) (b := 0) (by omega) (by omega) c_62
              exfalso; omega
          · have c_47 := nI_eq1 (a := z 1) (b := 40) (by omega) (by omega) c_47
            exfalso; omega
        · have c_34 := q_b0e c_34
          exact absurd c_34 (by rw [iN_t hw9]; decide)
    · have c_14 := q_b0e c_14
      exact absurd c_14 (mB_F (q_r_nI (by omega)) (by omega))
abbrev rm_X6_aheadx : Room := { frames := 2, cells := 0, slots := 0, locals := 43 }
set_option maxRecDepth 100000 in
set_option maxHeartbeats 4000000 in
theorem c_X6_aheadx (l : Launch) (D : va_G) (cA : ClassId) (ad : Nat → Nat) (g : Nat → Nat → Int32) (z : Nat → Nat) (x : Int32) (y : Int32) (w : Int32) (hc : (z 0) ≤ 16) (h12 : ¬ (q_r x (z 0) ∧ q_r y (z 0))) : q_CI l yX6_ahead [Cond.code yX6_ahead cX6_ahead 5 (some .int)] rm_X6_aheadx D cA [.ref (ad 80), .int x, .int y, .int w] (mdW cA ad g z) (nI 0) (mdW cA ad g (zs z 4 1)) := by
  refine q_startI RX6 (by decide +kernel) rfl (Nat.le_of_ble_eq_true rfl) ?_
  intro p e s m below meth c A args H locs ls hx hb hr hml hown hT hlk hP hK hD hA hS hl
  have hl : lv_has ls 5 [(0, .ref (ad 80)), (1, .int x), (2, .int y), (3, .int w)] := hl
  refine lv_aload_n hx hb dX6_ahead_0 rfl (lv_at hl 0 rfl) ?_
  refine lv_aload_n hx hb dX6_ahead_1 rfl (lv_at hl 0 rfl) ?_
  refine lv_iload_n hx hb dX6_ahead_2 rfl (lv_at hl 1 rfl) ?_
  refine q_callIW (As := [.int x]) (r := q_b (mB x (z 0))) (w1 := mdW cA ad g z) hx hb hml hown hT hK hP hD hS hA (c_X6_isMention l D cA ad g z x (show (z 0) ≤ 16 by omega)) k_X6_isMention kl_X6_111 (q0 := 0) rfl rfl rfl ((mdW_adr _ _ _ _).trans (mdW_adr _ _ _ _).symm) hl rfl rfl (Nat.le_of_ble_eq_true rfl) ⟨⟨rfl, rfl⟩, Nat.le_of_ble_eq_true rfl, Nat.le_of_ble_eq_true rfl⟩ ⟨Nat.zero_le _, Nat.zero_le _⟩ dX6_ahead_3 (fun H locs hP hD hS => ?_)
  refine lv_if_eq (tgt := 17) hx hb dX6_ahead_6 (by decide) (fun c_6 => ?_) (fun c_6 => ?_)
  · have c_6 := q_b0e c_6
    refine lv_iconst (v := nI 1) hx hb dX6_ahead_17 (by decide +kernel) ?_
    refine lv_goto (tgt := 55) hx hb dX6_ahead_18 (by decide) ?_
    refine q_put (ty := .int) (ws1 := mdW cA ad g (zs z 4 1)) hx hb hT hown hK hP hD hS kw_X6 tyX6_ok nmX6 0 rfl rfl 27 (by decide) kf_X6_82 rfl rfl (by decide +kernel) rfl rfl (Nat.le_of_ble_eq_true rfl) rfl dX6_ahead_55 (fun H locs hP hD hS => ?_)
    refine lv_aload_n hx hb dX6_ahead_58 rfl (lv_at hl 0 rfl) ?_
    refine q_get hx hb hT hown hK hP kw_X6 0 rfl rfl 27 (by decide) kf_X6_82 rfl (v := .int (nI 1)) rfl dX6_ahead_59 ?_
    refine lv_if_le (tgt := 67) hx hb dX6_ahead_62 (by decide) (fun c_62 => ?_) (fun c_62 => ?_)
    · have c_62 := nI_le1 (a := 1) (b := 0) (by omega) (by omega) c_62
      exfalso; omega
    · have c_62 := nI_le0 (a := 1) (b := 0) (by omega) (by omega) c_62
      refine lv_iconst (v := nI 0) hx hb dX6_ahead_65 (by decide +kernel) ?_
      exact q_iret hx hb hr hlk (by rfl) hP hS dX6_ahead_66
  · have c_6 := q_b0n c_6
    refine lv_aload_n hx hb dX6_ahead_9 rfl (lv_at hl 0 rfl) ?_
    refine lv_iload_n hx hb dX6_ahead_10 rfl (lv_at hl 2 rfl) ?_
    refine q_callIW (As := [.int y]) (r := q_b (mB y (z 0))) (w1 := mdW cA ad g z) hx hb hml hown hT hK hP hD hS hA (c_X6_isMention l D cA ad g z y (show (z 0) ≤ 16 by omega)) k_X6_isMention kl_X6_111 (q0 := 0) rfl rfl rfl ((mdW_adr _ _ _ _).trans (mdW_adr _ _ _ _).symm) hl rfl rfl (Nat.le_of_ble_eq_true rfl) ⟨⟨rfl, rfl⟩, Nat.le_of_ble_eq_true rfl, Nat.le_of_ble_eq_true rfl⟩ ⟨Nat.zero_le _, Nat.zero_le _⟩ dX6_ahead_11 (fun H locs hP hD hS => ?_)
    refine lv_if_ne (tgt := 21) hx hb dX6_ahead_14 (by decide) (fun c_14 => ?_) (fun c_14 => ?_)
    · have c_14 := q_b0n c_14
      exact absurd ⟨mB_t c_6 (by omega), mB_t c_14 (by omega)⟩ h12
    · have c_14 := q_b0e c_14
      refine lv_iconst (v := nI 1) hx hb dX6_ahead_17 (by decide +kernel) ?_
      refine lv_goto (tgt := 55) hx hb dX6_ahead_18 (by decide) ?_
      refine q_put (ty := .int) (ws1 := mdW cA ad g (zs z 4 1)) hx hb hT hown hK hP hD hS kw_X6 tyX6_ok nmX6 0 rfl rfl 27 (by decide) kf_X6_82 rfl rfl (by decide +kernel) rfl rfl (Nat.le_of_ble_eq_true rfl) rfl dX6_ahead_55 (fun H locs hP hD hS => ?_)
      refine lv_aload_n hx hb dX6_ahead_58 rfl (lv_at hl 0 rfl) ?_
      refine q_get hx hb hT hown hK hP kw_X6 0 rfl rfl 27 (by decide) kf_X6_82 rfl (v := .int (nI 1)) rfl dX6_ahead_59 ?_
      refine lv_if_le (tgt := 67) hx hb dX6_ahead_62 (by decide) (fun c_62 => ?_) (fun c_62 => ?_)
      · have c_62 := nI_le1 (a := 1) (b := 0) (by omega) (by omega) c_62
        exfalso; omega
      · have c_62 := nI_le0 (a := 1) (b := 0) (by omega) (by omega) c_62
        refine lv_iconst (v := nI 0) hx hb dX6_ahead_65 (by decide +kernel) ?_
        exact q_iret hx hb hr hlk (by rfl) hP hS dX6_ahead_66
abbrev rm_X6_aheadx3 : Room := { frames := 2, cells := 0, slots := 0, locals := 43 }
set_option maxRecDepth 100000 in
set_option maxHeartbeats 4000000 in
theorem c_X6_aheadx3 (l : Launch) (D : va_G) (cA : ClassId) (ad : Nat → Nat) (g : Nat → Nat → Int32) (z : Nat → Nat) (x : Int32) (y : Int32) (w : Int32) (hc : (z 0) ≤ 16) (h1 : q_r x (z 0)) (h2 : q_r y (z 0)) (hnw : x = y ∨ ¬ (¬ w < (-50) ∧ w ≤ nI 50)) : q_CI l yX6_ahead [Cond.code yX6_ahead cX6_ahead 5 (some .int)] rm_X6_aheadx3 D cA [.ref (ad 80), .int x, .int y, .int w] (mdW cA ad g z) (nI 0) (mdW cA ad g (zs z 4 2)) := by
  refine q_startI RX6 (by decide +kernel) rfl (Nat.le_of_ble_eq_true rfl) ?_
  intro p e s m below meth c A args H locs ls hx hb hr hml hown hT hlk hP hK hD hA hS hl
  have hl : lv_has ls 5 [(0, .ref (ad 80)), (1, .int x), (2, .int y), (3, .int w)] := hl
  refine lv_aload_n hx hb dX6_ahead_0 rfl (lv_at hl 0 rfl) ?_
  refine lv_aload_n hx hb dX6_ahead_1 rfl (lv_at hl 0 rfl) ?_
  refine lv_iload_n hx hb dX6_ahead_2 rfl (lv_at hl 1 rfl) ?_
  refine q_callIW (As := [.int x]) (r := q_b (mB x (z 0))) (w1 := mdW cA ad g z) hx hb hml hown hT hK hP hD hS hA (c_X6_isMention l D cA ad g z x (show (z 0) ≤ 16 by omega)) k_X6_isMention kl_X6_111 (q0 := 0) rfl rfl rfl ((mdW_adr _ _ _ _).trans (mdW_adr _ _ _ _).symm) hl rfl rfl (Nat.le_of_ble_eq_true rfl) ⟨⟨rfl, rfl⟩, Nat.le_of_ble_eq_true rfl, Nat.le_of_ble_eq_true rfl⟩ ⟨Nat.zero_le _, Nat.zero_le _⟩ dX6_ahead_3 (fun H locs hP hD hS => ?_)
  refine lv_if_eq (tgt := 17) hx hb dX6_ahead_6 (by decide) (fun c_6 => ?_) (fun c_6 => ?_)
  · have c_6 := q_b0e c_6
    exact absurd c_6 (mB_F h1 (by omega))
  · have c_6 := q_b0n c_6
    refine lv_aload_n hx hb dX6_ahead_9 rfl (lv_at hl 0 rfl) ?_
    refine lv_iload_n hx hb dX6_ahead_10 rfl (lv_at hl 2 rfl) ?_
    refine q_callIW (As := [.int y]) (r := q_b (mB y (z 0))) (w1 := mdW cA ad g z) hx hb hml hown hT hK hP hD hS hA (c_X6_isMention l D cA ad g z y (show (z 0) ≤ 16 by omega)) k_X6_isMention kl_X6_111 (q0 := 0) rfl rfl rfl ((mdW_adr _ _ _ _).trans (mdW_adr _ _ _ _).symm) hl rfl rfl (Nat.le_of_ble_eq_true rfl) ⟨⟨rfl, rfl⟩, Nat.le_of_ble_eq_true rfl, Nat.le_of_ble_eq_true rfl⟩ ⟨Nat.zero_le _, Nat.zero_le _⟩ dX6_ahead_11 (fun H locs hP hD hS => ?_)
    refine lv_if_ne (tgt := 21) hx hb dX6_ahead_14 (by decide) (fun c_14 => ?_) (fun c_14 => ?_)
    · have c_14 := q_b0n c_14
      refine lv_iload_n hx hb dX6_ahead_21 rfl (lv_at hl 1 rfl) ?_
      refine lv_iload_n hx hb dX6_ahead_22 rfl (lv_at hl 2 rfl) ?_
      refine lv_icmp_eq (tgt := 37) hx hb dX6_ahead_23 (by decide) (fun c_23 => ?_) (fun c_23 => ?_)
      · refine lv_iconst (v := nI 2) hx hb dX6_ahead_37 (by decide +kernel) ?_
        refine lv_goto (tgt := 55) hx hb dX6_ahead_38 (by decide) ?_
        refine q_put (ty := .int) (ws1 := mdW cA ad g (zs z 4 2)) hx hb hT hown hK hP hD hS kw_X6 tyX6_ok nmX6 0 rfl rfl 27 (by decide) kf_X6_82 rfl rfl (by decide +kernel) rfl rfl (Nat.le_of_ble_eq_true rfl) rfl dX6_ahead_55 (fun H locs hP hD hS => ?_)
        refine lv_aload_n hx hb dX6_ahead_58 rfl (lv_at hl 0 rfl) ?_
        refine q_get hx hb hT hown hK hP kw_X6 0 rfl rfl 27 (by decide) kf_X6_82 rfl (v := .int (nI 2)) rfl dX6_ahead_59 ?_
        refine lv_if_le (tgt := 67) hx hb dX6_ahead_62 (by decide) (fun c_62 => ?_) (fun c_62 => ?_)
        · have c_62 := nI_le1 (a := 2) (b := 0) (by omega) (by omega) c_62
          exfalso; omega
        · have c_62 := nI_le0 (a := 2) (b := 0) (by omega) (by omega) c_62
          refine lv_iconst (v := nI 0) hx hb dX6_ahead_65 (by decide +kernel) ?_
          exact q_iret hx hb hr hlk (by rfl) hP hS dX6_ahead_66
      · refine lv_iload_n hx hb dX6_ahead_26 rfl (lv_at hl 3 rfl) ?_
        refine lv_bipush (v := (-50)) hx hb dX6_ahead_27 (by decide +kernel) ?_
        refine lv_bipush (v := nI 50) hx hb dX6_ahead_29 (by decide +kernel) ?_
        refine q_callSI (As := [.int w, .int (-50), .int (nI 50)]) (r := q_b (iN w (-50) (nI 50))) hx hb hml hown hT hK hP hD hS hA (c_X6_isIn l D cA w (-50) (nI 50)) k_X6_isIn kl_X6_89 hl rfl rfl (Nat.le_of_ble_eq_true rfl) ⟨⟨rfl, rfl⟩, Nat.le_of_ble_eq_true rfl, Nat.le_of_ble_eq_true rfl⟩ ⟨Nat.zero_le _, Nat.zero_le _⟩ dX6_ahead_31 (fun H locs hP hD hS => ?_)
        refine lv_if_ne (tgt := 41) hx hb dX6_ahead_34 (by decide) (fun c_34 => ?_) (fun c_34 => ?_)
        · have c_34 := q_b0n c_34
          exact absurd (iN_e c_34) (hnw.resolve_left c_23)
        · have c_34 := q_b0e c_34
          refine lv_iconst (v := nI 2) hx hb dX6_ahead_37 (by decide +kernel) ?_
          refine lv_goto (tgt := 55) hx hb dX6_ahead_38 (by decide) ?_
          refine q_put (ty := .int) (ws1 := mdW cA ad g (zs z 4 2)) hx hb hT hown hK hP hD hS kw_X6 tyX6_ok nmX6 0 rfl rfl 27 (by decide) kf_X6_82 rfl rfl (by decide +kernel) rfl rfl (Nat.le_of_ble_eq_true rfl) rfl dX6_ahead_55 (fun H locs hP hD hS => ?_)
          refine lv_aload_n hx hb dX6_ahead_58 rfl (lv_at hl 0 rfl) ?_
          refine q_get hx hb hT hown hK hP kw_X6 0 rfl rfl 27 (by decide) kf_X6_82 rfl (v := .int (nI 2)) rfl dX6_ahead_59 ?_
          refine lv_if_le (tgt := 67) hx hb dX6_ahead_62 (by decide) (fun c_62 => ?_) (fun c_62 => ?_)
          · have c_62 := nI_le1 (a := 2) (b := 0) (by omega) (by omega) c_62
            exfalso; omega
          · have c_62 := nI_le0 (a := 2) (b := 0) (by omega) (by omega) c_62
            refine lv_iconst (v := nI 0) hx hb dX6_ahead_65 (by decide +kernel) ?_
            exact q_iret hx hb hr hlk (by rfl) hP hS dX6_ahead_66
    · have c_14 := q_b0e c_14
      exact absurd c_14 (mB_F h2 (by omega))
abbrev rm_X6_aheadx5 : Room := { frames := 2, cells := 0, slots := 0, locals := 43 }
set_option maxRecDepth 100000 in
set_option maxHeartbeats 4000000 in
theorem c_X6_aheadx5 (l : Launch) (D : va_G) (cA : ClassId) (ad : Nat → Nat) (g : Nat → Nat → Int32) (z : Nat → Nat) (i : Nat) (j : Nat) (w : Int32) (hi : i < (z 0)) (hj : j < (z 0)) (hc : (z 0) ≤ 16) (hne : ¬ i = j) (hw9 : ¬ w < (-50) ∧ w ≤ nI 50) (ht : (z 1) = 40) : q_CI l yX6_ahead [Cond.code yX6_ahead cX6_ahead 5 (some .int)] rm_X6_aheadx5 D cA [.ref (ad 80), .int (nI i), .int (nI j), .int w] (mdW cA ad g z) (nI 0) (mdW cA ad g (zs z 4 3)) := by
  refine q_startI RX6 (by decide +kernel) rfl (Nat.le_of_ble_eq_true rfl) ?_
  intro p e s m below meth c A args H locs ls hx hb hr hml hown hT hlk hP hK hD hA hS hl
  have hl : lv_has ls 5 [(0, .ref (ad 80)), (1, .int (nI i)), (2, .int (nI j)), (3, .int w)] := hl
  refine lv_aload_n hx hb dX6_ahead_0 rfl (lv_at hl 0 rfl) ?_
  refine lv_aload_n hx hb dX6_ahead_1 rfl (lv_at hl 0 rfl) ?_
  refine lv_iload_n hx hb dX6_ahead_2 rfl (lv_at hl 1 rfl) ?_
  refine q_callIW (As := [.int (nI i)]) (r := q_b (mB (nI i) (z 0))) (w1 := mdW cA ad g z) hx hb hml hown hT hK hP hD hS hA (c_X6_isMention l D cA ad g z (nI i) (show (z 0) ≤ 16 by omega)) k_X6_isMention kl_X6_111 (q0 := 0) rfl rfl rfl ((mdW_adr _ _ _ _).trans (mdW_adr _ _ _ _).symm) hl rfl rfl (Nat.le_of_ble_eq_true rfl) ⟨⟨rfl, rfl⟩, Nat.le_of_ble_eq_true rfl, Nat.le_of_ble_eq_true rfl⟩ ⟨Nat.zero_le _, Nat.zero_le _⟩ dX6_ahead_3 (fun H locs hP hD hS => ?_)
  refine lv_if_eq (tgt := 17) hx hb dX6_ahead_6 (by decide) (fun c_6 => ?_) (fun c_6 => ?_)
  · have c_6 := q_b0e c_6
    exact absurd c_6 (mB_F (q_r_nI (by omega)) (by omega))
  · have c_6 := q_b0n c_6
    refine lv_aload_n hx hb dX6_ahead_9 rfl (lv_at hl 0 rfl) ?_
    refine lv_iload_n hx hb dX6_ahead_10 rfl (lv_at hl 2 rfl) ?_
    refine q_callIW (As := [.int (nI j)]) (r := q_b (mB (nI j) (z 0))) (w1 := mdW cA ad g z) hx hb hml hown hT hK hP hD hS hA (c_X6_isMention l D cA ad g z (nI j) (show (z 0) ≤ 16 by omega)) k_X6_isMention kl_X6_111 (q0 := 0) rfl rfl rfl ((mdW_adr _ _ _ _).trans (mdW_adr _ _ _ _).symm) hl rfl rfl (Nat.le_of_ble_eq_true rfl) ⟨⟨rfl, rfl⟩, Nat.le_of_ble_eq_true rfl, Nat.le_of_ble_eq_true rfl⟩ ⟨Nat.zero_le _, Nat.zero_le _⟩ dX6_ahead_11 (fun H locs hP hD hS => ?_)
    refine lv_if_ne (tgt := 21) hx hb dX6_ahead_14 (by decide) (fun c_14 => ?_) (fun c_14 => ?_)
    · have c_14 := q_b0n c_14
      refine lv_iload_n hx hb dX6_ahead_21 rfl (lv_at hl 1 rfl) ?_
      refine lv_iload_n hx hb dX6_ahead_22 rfl (lv_at hl 2 rfl) ?_
      refine lv_icmp_eq (tgt := 37) hx hb dX6_ahead_23 (by decide) (fun c_23 => ?_) (fun c_23 => ?_)
      · have c_23 := nI_eq1 (a := i) (b := j) (by omega) (by omega) c_23
        exfalso; omega
      · have c_23 := nI_eq0 (a := i) (b := j) (by omega) (by omega) c_23
        refine lv_iload_n hx hb dX6_ahead_26 rfl (lv_at hl 3 rfl) ?_
        refine lv_bipush (v := (-50)) hx hb dX6_ahead_27 (by decide +kernel) ?_
        refine lv_bipush (v := nI 50) hx hb dX6_ahead_29 (by decide +kernel) ?_
        refine q_callSI (As := [.int w, .int (-50), .int (nI 50)]) (r := q_b (iN w (-50) (nI 50))) hx hb hml hown hT hK hP hD hS hA (c_X6_isIn l D cA w (-50) (nI 50)) k_X6_isIn kl_X6_89 hl rfl rfl (Nat.le_of_ble_eq_true rfl) ⟨⟨rfl, rfl⟩, Nat.le_of_ble_eq_true rfl, Nat.le_of_ble_eq_true rfl⟩ ⟨Nat.zero_le _, Nat.zero_le _⟩ dX6_ahead_31 (fun H locs hP hD hS => ?_)
        refine lv_if_ne (tgt := 41) hx hb dX6_ahead_34 (by decide) (fun c_34 => ?_) (fun c_34 => ?_)
        · have c_34 := q_b0n c_34
          refine lv_aload_n hx hb dX6_ahead_41 rfl (lv_at hl 0 rfl) ?_
          refine q_get hx hb hT hown hK hP kw_X6 0 rfl rfl 17 (by decide) kf_X6_108 rfl (v := .int (nI (z 1))) rfl dX6_ahead_42 ?_
          refine lv_bipush (v := nI 40) hx hb dX6_ahead_45 (by decide +kernel) ?_
          refine lv_icmp_ne (tgt := 54) hx hb dX6_ahead_47 (by decide) (fun c_47 => ?_) (fun c_47 => ?_)
          · have c_47 := nI_eq0 (a := z 1) (b := 40) (by omega) (by omega) c_47
            exfalso; omega
          · have c_47 := nI_eq1 (a := z 1) (b := 40) (by omega) (by omega) c_47
            refine lv_iconst (v := nI 3) hx hb dX6_ahead_50 (by decide +kernel) ?_
            refine lv_goto (tgt := 55) hx hb dX6_ahead_51 (by decide) ?_
            refine q_put (ty := .int) (ws1 := mdW cA ad g (zs z 4 3)) hx hb hT hown hK hP hD hS kw_X6 tyX6_ok nmX6 0 rfl rfl 27 (by decide) kf_X6_82 rfl rfl (by decide +kernel) rfl rfl (Nat.le_of_ble_eq_true rfl) rfl dX6_ahead_55 (fun H locs hP hD hS => ?_)
            refine lv_aload_n hx hb dX6_ahead_58 rfl (lv_at hl 0 rfl) ?_
            refine q_get hx hb hT hown hK hP kw_X6 0 rfl rfl 27 (by decide) kf_X6_82 rfl (v := .int (nI 3)) rfl dX6_ahead_59 ?_
            refine lv_if_le (tgt := 67) hx hb dX6_ahead_62 (by decide) (fun c_62 => ?_) (fun c_62 => ?_)
            · have c_62 := nI_le1 (a := 3) (b := 0) (by omega) (by omega) c_62
              exfalso; omega
            · have c_62 := nI_le0 (a := 3) (b := 0) (by omega) (by omega) c_62
              refine lv_iconst (v := nI 0) hx hb dX6_ahead_65 (by decide +kernel) ?_
              exact q_iret hx hb hr hlk (by rfl) hP hS dX6_ahead_66
        · have c_34 := q_b0e c_34
          exact absurd c_34 (by rw [iN_t hw9]; decide)
    · have c_14 := q_b0e c_14
      exact absurd c_14 (mB_F (q_r_nI (by omega)) (by omega))
abbrev rm_X6_seal : Room := { frames := 3, cells := 0, slots := 0, locals := 65 }
set_option maxRecDepth 100000 in
set_option maxHeartbeats 4000000 in
theorem c_X6_seal (l : Launch) (D : va_G) (cA : ClassId) (ad : Nat → Nat) (g : Nat → Nat → Int32) (z : Nat → Nat) (i : Nat) (j : Nat) (hi : i < (z 0)) (hj : j < (z 0)) (hc : (z 0) ≤ 16) (hne : ¬ i = j) : q_CI l yX6_seal [Cond.code yX6_seal cX6_seal 4 (some .boolean)] rm_X6_seal D cA [.ref (ad 80), .int (nI i), .int (nI j)] (mdW cA ad g z) (q_b (hasB ((g 9) i) (nI j))) (mdW cA ad (gs g 9 (tellF true (g 9) i j)) (zs z 4 0)) := by
  refine q_startI RX6 (by decide +kernel) rfl (Nat.le_of_ble_eq_true rfl) ?_
  intro p e s m below meth c A args H locs ls hx hb hr hml hown hT hlk hP hK hD hA hS hl
  have hl : lv_has ls 4 [(0, .ref (ad 80)), (1, .int (nI i)), (2, .int (nI j))] := hl
  refine lv_aload_n hx hb dX6_seal_0 rfl (lv_at hl 0 rfl) ?_
  refine lv_iload_n hx hb dX6_seal_1 rfl (lv_at hl 1 rfl) ?_
  refine lv_iload_n hx hb dX6_seal_2 rfl (lv_at hl 2 rfl) ?_
  refine q_callIW (As := [.int (nI i), .int (nI j)]) (r := nI 1) (w1 := mdW cA ad g (zs z 4 0)) hx hb hml hown hT hK hP hD hS hA (c_X6_asksTwo l D cA ad g z i j (show i < (z 0) by omega) (show j < (z 0) by omega) (show (z 0) ≤ 16 by omega) (show ¬ i = j by omega)) k_X6_asksTwo kl_X6_136 (q0 := 0) rfl rfl rfl ((mdW_adr _ _ _ _).trans (mdW_adr _ _ _ _).symm) hl rfl rfl (Nat.le_of_ble_eq_true rfl) ⟨⟨rfl, rfl⟩, Nat.le_of_ble_eq_true rfl, Nat.le_of_ble_eq_true rfl⟩ ⟨Nat.zero_le _, Nat.zero_le _⟩ dX6_seal_3 (fun H locs hP hD hS => ?_)
  refine lv_if_ne (tgt := 11) hx hb dX6_seal_6 (by decide) (fun c_6 => ?_) (fun c_6 => ?_)
  · have c_6 := nI_eq0 (a := 1) (b := 0) (by omega) (by omega) c_6
    refine lv_aload_n hx hb dX6_seal_11 rfl (lv_at hl 0 rfl) ?_
    refine q_get hx hb hT hown hK hP kw_X6 0 rfl rfl 7 (by decide) kf_X6_28 rfl (v := .ref (ad 9)) rfl dX6_seal_12 ?_
    refine lv_iload_n hx hb dX6_seal_15 rfl (lv_at hl 1 rfl) ?_
    refine q_iald (f := g 9) hx hb hK hP 7 0 rfl rfl (i) rfl (by omega) (by omega) dX6_seal_16 ?_
    refine lv_iload_n hx hb dX6_seal_17 rfl (lv_at hl 2 rfl) ?_
    refine q_callSI (As := [.int (g 9 i), .int (nI j)]) (r := q_b (hasB (g 9 i) (nI j))) hx hb hml hown hT hK hP hD hS hA (c_X6_has l D cA (g 9 i) (nI j)) k_X6_has kl_X6_104 hl rfl rfl (Nat.le_of_ble_eq_true rfl) ⟨⟨rfl, rfl⟩, Nat.le_of_ble_eq_true rfl, Nat.le_of_ble_eq_true rfl⟩ ⟨Nat.zero_le _, Nat.zero_le _⟩ dX6_seal_18 (fun H locs hP hD hS => ?_)
    refine lv_istore_n (lv' := [(3, .int (q_b (hasB (g 9 i) (nI j)))), (0, .ref (ad 80)), (1, .int (nI i)), (2, .int (nI j))]) hx hb dX6_seal_21 rfl hl (by decide) rfl (fun ls hl => ?_)
    refine lv_aload_n hx hb dX6_seal_22 rfl (lv_at hl 1 rfl) ?_
    refine q_get hx hb hT hown hK hP kw_X6 0 rfl rfl 7 (by decide) kf_X6_28 rfl (v := .ref (ad 9)) rfl dX6_seal_23 ?_
    refine lv_iload_n hx hb dX6_seal_26 rfl (lv_at hl 2 rfl) ?_
    refine lv_dup2_11 hx hb dX6_seal_27 rfl rfl ?_
    refine q_iald (f := g 9) hx hb hK hP 7 0 rfl rfl (i) rfl (by omega) (by omega) dX6_seal_28 ?_
    refine lv_iconst (v := nI 1) hx hb dX6_seal_29 (by decide +kernel) ?_
    refine lv_iload_n hx hb dX6_seal_30 rfl (lv_at hl 3 rfl) ?_
    refine lv_ishl hx hb dX6_seal_31 ?_
    refine lv_ior hx hb dX6_seal_32 ?_
    refine q_iast (f := g 9) (ws1 := mdW cA ad (gs g 9 (upd (g 9) i ((g 9 i) ||| ((nI 1) <<< ((nI j) &&& 31))))) (zs z 4 0)) hx hb hK hP hD hS 7 0 rfl rfl (i) rfl (by omega) (by omega) rfl dX6_seal_33 (fun H locs hP hD hS => ?_)
    obtain ⟨nF33_9, enF33_9⟩ : ∃ y : Nat → Int32, y = upd (g 9) i ((g 9 i) ||| ((nI 1) <<< ((nI j) &&& 31))) := ⟨_, rfl⟩
    have hP : va_P D vwCl (mdW cA ad (gs g 9 nF33_9) (zs z 4 0)) H := by rw [enF33_9]; exact hP
    have hD : va_D A (mdW cA ad (gs g 9 nF33_9) (zs z 4 0)) := by rw [enF33_9]; exact hD
    refine lv_aload_n hx hb dX6_seal_34 rfl (lv_at hl 1 rfl) ?_
    refine q_get hx hb hT hown hK hP kw_X6 0 rfl rfl 7 (by decide) kf_X6_28 rfl (v := .ref (ad 9)) rfl dX6_seal_35 ?_
    refine lv_iload_n hx hb dX6_seal_38 rfl (lv_at hl 3 rfl) ?_
    refine lv_dup2_11 hx hb dX6_seal_39 rfl rfl ?_
    refine q_iald (f := nF33_9) hx hb hK hP 7 0 rfl rfl (j) rfl (by omega) (by omega) dX6_seal_40 ?_
    refine lv_iconst (v := nI 1) hx hb dX6_seal_41 (by decide +kernel) ?_
    refine lv_iload_n hx hb dX6_seal_42 rfl (lv_at hl 2 rfl) ?_
    refine lv_ishl hx hb dX6_seal_43 ?_
    refine lv_ior hx hb dX6_seal_44 ?_
    refine q_iast (f := nF33_9) (ws1 := mdW cA ad (gs g 9 (upd nF33_9 j ((nF33_9 j) ||| ((nI 1) <<< ((nI i) &&& 31))))) (zs z 4 0)) hx hb hK hP hD hS 7 0 rfl rfl (j) rfl (by omega) (by omega) rfl dX6_seal_45 (fun H locs hP hD hS => ?_)
    obtain ⟨nF45_9, enF45_9⟩ : ∃ y : Nat → Int32, y = upd nF33_9 j ((nF33_9 j) ||| ((nI 1) <<< ((nI i) &&& 31))) := ⟨_, rfl⟩
    have hP : va_P D vwCl (mdW cA ad (gs g 9 nF45_9) (zs z 4 0)) H := by rw [enF45_9]; exact hP
    have hD : va_D A (mdW cA ad (gs g 9 nF45_9) (zs z 4 0)) := by rw [enF45_9]; exact hD
    refine lv_iload_n hx hb dX6_seal_46 rfl (lv_at hl 0 rfl) ?_
    rw [enF45_9] at hP hD
    rw [enF33_9] at hP hD
    exact q_zret hx hb hr hlk (q_b_or _) (by rfl) (va_cast' hP (by rfl)) hS dX6_seal_47
  · have c_6 := nI_eq1 (a := 1) (b := 0) (by omega) (by omega) c_6
    exfalso; omega
abbrev rm_X6_sealx : Room := { frames := 3, cells := 0, slots := 0, locals := 65 }
set_option maxRecDepth 100000 in
set_option maxHeartbeats 4000000 in
theorem c_X6_sealx (l : Launch) (D : va_G) (cA : ClassId) (ad : Nat → Nat) (g : Nat → Nat → Int32) (z : Nat → Nat) (x : Int32) (y : Int32) (hc : (z 0) ≤ 16) (h12 : ¬ (q_r x (z 0) ∧ q_r y (z 0))) : q_CI l yX6_seal [Cond.code yX6_seal cX6_seal 4 (some .boolean)] rm_X6_sealx D cA [.ref (ad 80), .int x, .int y] (mdW cA ad g z) (nI 0) (mdW cA ad g (zs z 4 1)) := by
  refine q_startI RX6 (by decide +kernel) rfl (Nat.le_of_ble_eq_true rfl) ?_
  intro p e s m below meth c A args H locs ls hx hb hr hml hown hT hlk hP hK hD hA hS hl
  have hl : lv_has ls 4 [(0, .ref (ad 80)), (1, .int x), (2, .int y)] := hl
  refine lv_aload_n hx hb dX6_seal_0 rfl (lv_at hl 0 rfl) ?_
  refine lv_iload_n hx hb dX6_seal_1 rfl (lv_at hl 1 rfl) ?_
  refine lv_iload_n hx hb dX6_seal_2 rfl (lv_at hl 2 rfl) ?_
  refine q_callIW (As := [.int x, .int y]) (r := nI 0) (w1 := mdW cA ad g (zs z 4 1)) hx hb hml hown hT hK hP hD hS hA (c_X6_asksTwox l D cA ad g z x y (show (z 0) ≤ 16 by omega) h12) k_X6_asksTwo kl_X6_136 (q0 := 0) rfl rfl rfl ((mdW_adr _ _ _ _).trans (mdW_adr _ _ _ _).symm) hl rfl rfl (Nat.le_of_ble_eq_true rfl) ⟨⟨rfl, rfl⟩, Nat.le_of_ble_eq_true rfl, Nat.le_of_ble_eq_true rfl⟩ ⟨Nat.zero_le _, Nat.zero_le _⟩ dX6_seal_3 (fun H locs hP hD hS => ?_)
  refine lv_if_ne (tgt := 11) hx hb dX6_seal_6 (by decide) (fun c_6 => ?_) (fun c_6 => ?_)
  · have c_6 := nI_eq0 (a := 0) (b := 0) (by omega) (by omega) c_6
    exfalso; omega
  · have c_6 := nI_eq1 (a := 0) (b := 0) (by omega) (by omega) c_6
    refine lv_iconst (v := nI 0) hx hb dX6_seal_9 (by decide +kernel) ?_
    exact q_zret hx hb hr hlk (Or.inl rfl) (by rfl) hP hS dX6_seal_10
abbrev rm_X6_sealx3 : Room := { frames := 3, cells := 0, slots := 0, locals := 65 }
set_option maxRecDepth 100000 in
set_option maxHeartbeats 4000000 in
theorem c_X6_sealx3 (l : Launch) (D : va_G) (cA : ClassId) (ad : Nat → Nat) (g : Nat → Nat → Int32) (z : Nat → Nat) (x : Int32) (y : Int32) (hc : (z 0) ≤ 16) (h1 : q_r x (z 0)) (h2 : q_r y (z 0)) (hne : x = y) : q_CI l yX6_seal [Cond.code yX6_seal cX6_seal 4 (some .boolean)] rm_X6_sealx3 D cA [.ref (ad 80), .int x, .int y] (mdW cA ad g z) (nI 0) (mdW cA ad g (zs z 4 2)) := by
  refine q_startI RX6 (by decide +kernel) rfl (Nat.le_of_ble_eq_true rfl) ?_
  intro p e s m below meth c A args H locs ls hx hb hr hml hown hT hlk hP hK hD hA hS hl
  have hl : lv_has ls 4 [(0, .ref (ad 80)), (1, .int x), (2, .int y)] := hl
  refine lv_aload_n hx hb dX6_seal_0 rfl (lv_at hl 0 rfl) ?_
  refine lv_iload_n hx hb dX6_seal_1 rfl (lv_at hl 1 rfl) ?_
  refine lv_iload_n hx hb dX6_seal_2 rfl (lv_at hl 2 rfl) ?_
  refine q_callIW (As := [.int x, .int y]) (r := nI 0) (w1 := mdW cA ad g (zs z 4 2)) hx hb hml hown hT hK hP hD hS hA (c_X6_asksTwox3 l D cA ad g z x y (show (z 0) ≤ 16 by omega) h1 h2 hne) k_X6_asksTwo kl_X6_136 (q0 := 0) rfl rfl rfl ((mdW_adr _ _ _ _).trans (mdW_adr _ _ _ _).symm) hl rfl rfl (Nat.le_of_ble_eq_true rfl) ⟨⟨rfl, rfl⟩, Nat.le_of_ble_eq_true rfl, Nat.le_of_ble_eq_true rfl⟩ ⟨Nat.zero_le _, Nat.zero_le _⟩ dX6_seal_3 (fun H locs hP hD hS => ?_)
  refine lv_if_ne (tgt := 11) hx hb dX6_seal_6 (by decide) (fun c_6 => ?_) (fun c_6 => ?_)
  · have c_6 := nI_eq0 (a := 0) (b := 0) (by omega) (by omega) c_6
    exfalso; omega
  · have c_6 := nI_eq1 (a := 0) (b := 0) (by omega) (by omega) c_6
    refine lv_iconst (v := nI 0) hx hb dX6_seal_9 (by decide +kernel) ?_
    exact q_zret hx hb hr hlk (Or.inl rfl) (by rfl) hP hS dX6_seal_10
abbrev rm_X6_kin : Room := { frames := 3, cells := 0, slots := 0, locals := 65 }
set_option maxRecDepth 100000 in
set_option maxHeartbeats 4000000 in
theorem c_X6_kin (l : Launch) (D : va_G) (cA : ClassId) (ad : Nat → Nat) (g : Nat → Nat → Int32) (z : Nat → Nat) (i : Nat) (j : Nat) (hi : i < (z 0)) (hj : j < (z 0)) (hc : (z 0) ≤ 16) (hne : ¬ i = j) : q_CI l yX6_kin [Cond.code yX6_kin cX6_kin 4 (some .boolean)] rm_X6_kin D cA [.ref (ad 80), .int (nI i), .int (nI j)] (mdW cA ad g z) (q_b (hasB ((g 11) i) (nI j))) (mdW cA ad (gs g 11 (tellF true (g 11) i j)) (zs z 4 0)) := by
  refine q_startI RX6 (by decide +kernel) rfl (Nat.le_of_ble_eq_true rfl) ?_
  intro p e s m below meth c A args H locs ls hx hb hr hml hown hT hlk hP hK hD hA hS hl
  have hl : lv_has ls 4 [(0, .ref (ad 80)), (1, .int (nI i)), (2, .int (nI j))] := hl
  refine lv_aload_n hx hb dX6_kin_0 rfl (lv_at hl 0 rfl) ?_
  refine lv_iload_n hx hb dX6_kin_1 rfl (lv_at hl 1 rfl) ?_
  refine lv_iload_n hx hb dX6_kin_2 rfl (lv_at hl 2 rfl) ?_
  refine q_callIW (As := [.int (nI i), .int (nI j)]) (r := nI 1) (w1 := mdW cA ad g (zs z 4 0)) hx hb hml hown hT hK hP hD hS hA (c_X6_asksTwo l D cA ad g z i j (show i < (z 0) by omega) (show j < (z 0) by omega) (show (z 0) ≤ 16 by omega) (show ¬ i = j by omega)) k_X6_asksTwo kl_X6_136 (q0 := 0) rfl rfl rfl ((mdW_adr _ _ _ _).trans (mdW_adr _ _ _ _).symm) hl rfl rfl (Nat.le_of_ble_eq_true rfl) ⟨⟨rfl, rfl⟩, Nat.le_of_ble_eq_true rfl, Nat.le_of_ble_eq_true rfl⟩ ⟨Nat.zero_le _, Nat.zero_le _⟩ dX6_kin_3 (fun H locs hP hD hS => ?_)
  refine lv_if_ne (tgt := 11) hx hb dX6_kin_6 (by decide) (fun c_6 => ?_) (fun c_6 => ?_)
  · have c_6 := nI_eq0 (a := 1) (b := 0) (by omega) (by omega) c_6
    refine lv_aload_n hx hb dX6_kin_11 rfl (lv_at hl 0 rfl) ?_
    refine q_get hx hb hT hown hK hP kw_X6 0 rfl rfl 9 (by decide) kf_X6_34 rfl (v := .ref (ad 11)) rfl dX6_kin_12 ?_
    refine lv_iload_n hx hb dX6_kin_15 rfl (lv_at hl 1 rfl) ?_
    refine q_iald (f := g 11) hx hb hK hP 9 0 rfl rfl (i) rfl (by omega) (by omega) dX6_kin_16 ?_
    refine lv_iload_n hx hb dX6_kin_17 rfl (lv_at hl 2 rfl) ?_
    refine q_callSI (As := [.int (g 11 i), .int (nI j)]) (r := q_b (hasB (g 11 i) (nI j))) hx hb hml hown hT hK hP hD hS hA (c_X6_has l D cA (g 11 i) (nI j)) k_X6_has kl_X6_104 hl rfl rfl (Nat.le_of_ble_eq_true rfl) ⟨⟨rfl, rfl⟩, Nat.le_of_ble_eq_true rfl, Nat.le_of_ble_eq_true rfl⟩ ⟨Nat.zero_le _, Nat.zero_le _⟩ dX6_kin_18 (fun H locs hP hD hS => ?_)
    refine lv_istore_n (lv' := [(3, .int (q_b (hasB (g 11 i) (nI j)))), (0, .ref (ad 80)), (1, .int (nI i)), (2, .int (nI j))]) hx hb dX6_kin_21 rfl hl (by decide) rfl (fun ls hl => ?_)
    refine lv_aload_n hx hb dX6_kin_22 rfl (lv_at hl 1 rfl) ?_
    refine q_get hx hb hT hown hK hP kw_X6 0 rfl rfl 9 (by decide) kf_X6_34 rfl (v := .ref (ad 11)) rfl dX6_kin_23 ?_
    refine lv_iload_n hx hb dX6_kin_26 rfl (lv_at hl 2 rfl) ?_
    refine lv_dup2_11 hx hb dX6_kin_27 rfl rfl ?_
    refine q_iald (f := g 11) hx hb hK hP 9 0 rfl rfl (i) rfl (by omega) (by omega) dX6_kin_28 ?_
    refine lv_iconst (v := nI 1) hx hb dX6_kin_29 (by decide +kernel) ?_
    refine lv_iload_n hx hb dX6_kin_30 rfl (lv_at hl 3 rfl) ?_
    refine lv_ishl hx hb dX6_kin_31 ?_
    refine lv_ior hx hb dX6_kin_32 ?_
    refine q_iast (f := g 11) (ws1 := mdW cA ad (gs g 11 (upd (g 11) i ((g 11 i) ||| ((nI 1) <<< ((nI j) &&& 31))))) (zs z 4 0)) hx hb hK hP hD hS 9 0 rfl rfl (i) rfl (by omega) (by omega) rfl dX6_kin_33 (fun H locs hP hD hS => ?_)
    obtain ⟨nF33_11, enF33_11⟩ : ∃ y : Nat → Int32, y = upd (g 11) i ((g 11 i) ||| ((nI 1) <<< ((nI j) &&& 31))) := ⟨_, rfl⟩
    have hP : va_P D vwCl (mdW cA ad (gs g 11 nF33_11) (zs z 4 0)) H := by rw [enF33_11]; exact hP
    have hD : va_D A (mdW cA ad (gs g 11 nF33_11) (zs z 4 0)) := by rw [enF33_11]; exact hD
    refine lv_aload_n hx hb dX6_kin_34 rfl (lv_at hl 1 rfl) ?_
    refine q_get hx hb hT hown hK hP kw_X6 0 rfl rfl 9 (by decide) kf_X6_34 rfl (v := .ref (ad 11)) rfl dX6_kin_35 ?_
    refine lv_iload_n hx hb dX6_kin_38 rfl (lv_at hl 3 rfl) ?_
    refine lv_dup2_11 hx hb dX6_kin_39 rfl rfl ?_
    refine q_iald (f := nF33_11) hx hb hK hP 9 0 rfl rfl (j) rfl (by omega) (by omega) dX6_kin_40 ?_
    refine lv_iconst (v := nI 1) hx hb dX6_kin_41 (by decide +kernel) ?_
    refine lv_iload_n hx hb dX6_kin_42 rfl (lv_at hl 2 rfl) ?_
    refine lv_ishl hx hb dX6_kin_43 ?_
    refine lv_ior hx hb dX6_kin_44 ?_
    refine q_iast (f := nF33_11) (ws1 := mdW cA ad (gs g 11 (upd nF33_11 j ((nF33_11 j) ||| ((nI 1) <<< ((nI i) &&& 31))))) (zs z 4 0)) hx hb hK hP hD hS 9 0 rfl rfl (j) rfl (by omega) (by omega) rfl dX6_kin_45 (fun H locs hP hD hS => ?_)
    obtain ⟨nF45_11, enF45_11⟩ : ∃ y : Nat → Int32, y = upd nF33_11 j ((nF33_11 j) ||| ((nI 1) <<< ((nI i) &&& 31))) := ⟨_, rfl⟩
    have hP : va_P D vwCl (mdW cA ad (gs g 11 nF45_11) (zs z 4 0)) H := by rw [enF45_11]; exact hP
    have hD : va_D A (mdW cA ad (gs g 11 nF45_11) (zs z 4 0)) := by rw [enF45_11]; exact hD
    refine lv_iload_n hx hb dX6_kin_46 rfl (lv_at hl 0 rfl) ?_
    rw [enF45_11] at hP hD
    rw [enF33_11] at hP hD
    exact q_zret hx hb hr hlk (q_b_or _) (by rfl) (va_cast' hP (by rfl)) hS dX6_kin_47
  · have c_6 := nI_eq1 (a := 1) (b := 0) (by omega) (by omega) c_6
    exfalso; omega
abbrev rm_X6_kinx : Room := { frames := 3, cells := 0, slots := 0, locals := 65 }
set_option maxRecDepth 100000 in
set_option maxHeartbeats 4000000 in
theorem c_X6_kinx (l : Launch) (D : va_G) (cA : ClassId) (ad : Nat → Nat) (g : Nat → Nat → Int32) (z : Nat → Nat) (x : Int32) (y : Int32) (hc : (z 0) ≤ 16) (h12 : ¬ (q_r x (z 0) ∧ q_r y (z 0))) : q_CI l yX6_kin [Cond.code yX6_kin cX6_kin 4 (some .boolean)] rm_X6_kinx D cA [.ref (ad 80), .int x, .int y] (mdW cA ad g z) (nI 0) (mdW cA ad g (zs z 4 1)) := by
  refine q_startI RX6 (by decide +kernel) rfl (Nat.le_of_ble_eq_true rfl) ?_
  intro p e s m below meth c A args H locs ls hx hb hr hml hown hT hlk hP hK hD hA hS hl
  have hl : lv_has ls 4 [(0, .ref (ad 80)), (1, .int x), (2, .int y)] := hl
  refine lv_aload_n hx hb dX6_kin_0 rfl (lv_at hl 0 rfl) ?_
  refine lv_iload_n hx hb dX6_kin_1 rfl (lv_at hl 1 rfl) ?_
  refine lv_iload_n hx hb dX6_kin_2 rfl (lv_at hl 2 rfl) ?_
  refine q_callIW (As := [.int x, .int y]) (r := nI 0) (w1 := mdW cA ad g (zs z 4 1)) hx hb hml hown hT hK hP hD hS hA (c_X6_asksTwox l D cA ad g z x y (show (z 0) ≤ 16 by omega) h12) k_X6_asksTwo kl_X6_136 (q0 := 0) rfl rfl rfl ((mdW_adr _ _ _ _).trans (mdW_adr _ _ _ _).symm) hl rfl rfl (Nat.le_of_ble_eq_true rfl) ⟨⟨rfl, rfl⟩, Nat.le_of_ble_eq_true rfl, Nat.le_of_ble_eq_true rfl⟩ ⟨Nat.zero_le _, Nat.zero_le _⟩ dX6_kin_3 (fun H locs hP hD hS => ?_)
  refine lv_if_ne (tgt := 11) hx hb dX6_kin_6 (by decide) (fun c_6 => ?_) (fun c_6 => ?_)
  · have c_6 := nI_eq0 (a := 0) (b := 0) (by omega) (by omega) c_6
    exfalso; omega
  · have c_6 := nI_eq1 (a := 0) (b := 0) (by omega) (by omega) c_6
    refine lv_iconst (v := nI 0) hx hb dX6_kin_9 (by decide +kernel) ?_
    exact q_zret hx hb hr hlk (Or.inl rfl) (by rfl) hP hS dX6_kin_10
abbrev rm_X6_kinx3 : Room := { frames := 3, cells := 0, slots := 0, locals := 65 }
set_option maxRecDepth 100000 in
set_option maxHeartbeats 4000000 in
theorem c_X6_kinx3 (l : Launch) (D : va_G) (cA : ClassId) (ad : Nat → Nat) (g : Nat → Nat → Int32) (z : Nat → Nat) (x : Int32) (y : Int32) (hc : (z 0) ≤ 16) (h1 : q_r x (z 0)) (h2 : q_r y (z 0)) (hne : x = y) : q_CI l yX6_kin [Cond.code yX6_kin cX6_kin 4 (some .boolean)] rm_X6_kinx3 D cA [.ref (ad 80), .int x, .int y] (mdW cA ad g z) (nI 0) (mdW cA ad g (zs z 4 2)) := by
  refine q_startI RX6 (by decide +kernel) rfl (Nat.le_of_ble_eq_true rfl) ?_
  intro p e s m below meth c A args H locs ls hx hb hr hml hown hT hlk hP hK hD hA hS hl
  have hl : lv_has ls 4 [(0, .ref (ad 80)), (1, .int x), (2, .int y)] := hl
  refine lv_aload_n hx hb dX6_kin_0 rfl (lv_at hl 0 rfl) ?_
  refine lv_iload_n hx hb dX6_kin_1 rfl (lv_at hl 1 rfl) ?_
  refine lv_iload_n hx hb dX6_kin_2 rfl (lv_at hl 2 rfl) ?_
  refine q_callIW (As := [.int x, .int y]) (r := nI 0) (w1 := mdW cA ad g (zs z 4 2)) hx hb hml hown hT hK hP hD hS hA (c_X6_asksTwox3 l D cA ad g z x y (show (z 0) ≤ 16 by omega) h1 h2 hne) k_X6_asksTwo kl_X6_136 (q0 := 0) rfl rfl rfl ((mdW_adr _ _ _ _).trans (mdW_adr _ _ _ _).symm) hl rfl rfl (Nat.le_of_ble_eq_true rfl) ⟨⟨rfl, rfl⟩, Nat.le_of_ble_eq_true rfl, Nat.le_of_ble_eq_true rfl⟩ ⟨Nat.zero_le _, Nat.zero_le _⟩ dX6_kin_3 (fun H locs hP hD hS => ?_)
  refine lv_if_ne (tgt := 11) hx hb dX6_kin_6 (by decide) (fun c_6 => ?_) (fun c_6 => ?_)
  · have c_6 := nI_eq0 (a := 0) (b := 0) (by omega) (by omega) c_6
    exfalso; omega
  · have c_6 := nI_eq1 (a := 0) (b := 0) (by omega) (by omega) c_6
    refine lv_iconst (v := nI 0) hx hb dX6_kin_9 (by decide +kernel) ?_
    exact q_zret hx hb hr hlk (Or.inl rfl) (by rfl) hP hS dX6_kin_10
abbrev rm_X6_block : Room := { frames := 3, cells := 0, slots := 0, locals := 65 }
set_option maxRecDepth 100000 in
set_option maxHeartbeats 4000000 in
theorem c_X6_block (l : Launch) (D : va_G) (cA : ClassId) (ad : Nat → Nat) (g : Nat → Nat → Int32) (z : Nat → Nat) (i : Nat) (j : Nat) (is : Bool) (hi : i < (z 0)) (hj : j < (z 0)) (hc : (z 0) ≤ 16) (hne : ¬ i = j) : q_CI l yX6_block [Cond.code yX6_block cX6_block 5 (some .boolean)] rm_X6_block D cA [.ref (ad 80), .int (nI i), .int (nI j), .int (q_b is)] (mdW cA ad g z) (q_b (hasB ((g 10) i) (nI j))) (mdW cA ad (gs g 10 (tellF is (g 10) i j)) (zs z 4 0)) := by
  refine q_startI RX6 (by decide +kernel) rfl (Nat.le_of_ble_eq_true rfl) ?_
  intro p e s m below meth c A args H locs ls hx hb hr hml hown hT hlk hP hK hD hA hS hl
  have hl : lv_has ls 5 [(0, .ref (ad 80)), (1, .int (nI i)), (2, .int (nI j)), (3, .int (q_b is))] := hl
  have zqJ92 : ∀ (H : Heap) (locs : List Loc) (ls : Array Slot), va_P D vwCl (mdW cA ad (gs g 10 (upd (g 10) i (bitS is ((g 10) i) (nI j)))) (zs z 4 0)) H → va_D A (mdW cA ad (gs g 10 (upd (g 10) i (bitS is ((g 10) i) (nI j)))) (zs z 4 0)) → va_S A s.heap H locs → lv_has ls 5 [(0, .ref (ad 80)), (1, .int (nI i)), (2, .int (nI j)), (3, .int (q_b is)), (4, .int (q_b (hasB ((g 10) i) (nI j))))] → W p l e rm_X6_block s m args below meth c H locs 0 0 (q_GI D (q_b (hasB ((g 10) i) (nI j))) (mdW cA ad (gs g 10 (tellF is (g 10) i j)) (zs z 4 0)) A below args s) (F0 m 92 ls [.int (bitS is (upd (g 10) i (bitS is ((g 10) i) (nI j)) j) (nI i)), .int (nI j), .ref (ad 10)]) := by
    intro   H locs ls hP hD hS hl
    refine q_iast (f := upd (g 10) i (bitS is ((g 10) i) (nI j))) (ws1 := mdW cA ad (gs g 10 (upd (upd (g 10) i (bitS is ((g 10) i) (nI j))) j (bitS is (upd (g 10) i (bitS is ((g 10) i) (nI j)) j) (nI i)))) (zs z 4 0)) hx hb hK hP hD hS 8 0 rfl rfl (j) rfl (by omega) (by omega) rfl dX6_block_92 (fun H locs hP hD hS => ?_)
    obtain ⟨nF92_10, enF92_10⟩ : ∃ y : Nat → Int32, y = upd (upd (g 10) i (bitS is ((g 10) i) (nI j))) j (bitS is (upd (g 10) i (bitS is ((g 10) i) (nI j)) j) (nI i)) := ⟨_, rfl⟩
    have hP : va_P D vwCl (mdW cA ad (gs g 10 nF92_10) (zs z 4 0)) H := by rw [enF92_10]; exact hP
    have hD : va_D A (mdW cA ad (gs g 10 nF92_10) (zs z 4 0)) := by rw [enF92_10]; exact hD
    refine lv_iload hx hb dX6_block_93 (lv_at hl 4 rfl) ?_
    rw [enF92_10] at hP hD
    exact q_zret hx hb hr hlk (q_b_or _) (by rfl) (va_cast' hP (by rfl)) hS dX6_block_95
  have zqJ57 : ∀ (H : Heap) (locs : List Loc) (ls : Array Slot), va_P D vwCl (mdW cA ad g (zs z 4 0)) H → va_D A (mdW cA ad g (zs z 4 0)) → va_S A s.heap H locs → lv_has ls 5 [(0, .ref (ad 80)), (1, .int (nI i)), (2, .int (nI j)), (3, .int (q_b is)), (4, .int (q_b (hasB ((g 10) i) (nI j))))] → W p l e rm_X6_block s m args below meth c H locs 0 0 (q_GI D (q_b (hasB ((g 10) i) (nI j))) (mdW cA ad (gs g 10 (tellF is (g 10) i j)) (zs z 4 0)) A below args s) (F0 m 57 ls [.int (bitS is ((g 10) i) (nI j)), .int (nI i), .ref (ad 10)]) := by
    intro   H locs ls hP hD hS hl
    refine q_iast (f := g 10) (ws1 := mdW cA ad (gs g 10 (upd (g 10) i (bitS is ((g 10) i) (nI j)))) (zs z 4 0)) hx hb hK hP hD hS 8 0 rfl rfl (i) rfl (by omega) (by omega) rfl dX6_block_57 (fun H locs hP hD hS => ?_)
    obtain ⟨nF57_10, enF57_10⟩ : ∃ y : Nat → Int32, y = upd (g 10) i (bitS is ((g 10) i) (nI j)) := ⟨_, rfl⟩
    have hP : va_P D vwCl (mdW cA ad (gs g 10 nF57_10) (zs z 4 0)) H := by rw [enF57_10]; exact hP
    have hD : va_D A (mdW cA ad (gs g 10 nF57_10) (zs z 4 0)) := by rw [enF57_10]; exact hD
    refine lv_aload_n hx hb dX6_block_58 rfl (lv_at hl 0 rfl) ?_
    refine q_get hx hb hT hown hK hP kw_X6 0 rfl rfl 8 (by decide) kf_X6_31 rfl (v := .ref (ad 10)) rfl dX6_block_59 ?_
    refine lv_iload_n hx hb dX6_block_62 rfl (lv_at hl 2 rfl) ?_
    refine lv_iload_n hx hb dX6_block_63 rfl (lv_at hl 3 rfl) ?_
    refine lv_if_eq (tgt := 80) hx hb dX6_block_64 (by decide) (fun c_64 => ?_) (fun c_64 => ?_)
    · have c_64 := q_b0e c_64
      refine lv_aload_n hx hb dX6_block_80 rfl (lv_at hl 0 rfl) ?_
      refine q_get hx hb hT hown hK hP kw_X6 0 rfl rfl 8 (by decide) kf_X6_31 rfl (v := .ref (ad 10)) rfl dX6_block_81 ?_
      refine lv_iload_n hx hb dX6_block_84 rfl (lv_at hl 2 rfl) ?_
      refine q_iald (f := nF57_10) hx hb hK hP 8 0 rfl rfl (j) rfl (by omega) (by omega) dX6_block_85 ?_
      refine lv_iconst (v := nI 1) hx hb dX6_block_86 (by decide +kernel) ?_
      refine lv_iload_n hx hb dX6_block_87 rfl (lv_at hl 1 rfl) ?_
      refine lv_ishl hx hb dX6_block_88 ?_
      refine lv_iconst (v := (-1)) hx hb dX6_block_89 (by decide +kernel) ?_
      refine lv_ixor hx hb dX6_block_90 ?_
      refine lv_iand hx hb dX6_block_91 ?_
      rw [enF57_10] at hP hD
      rw [enF57_10]
      refine q_top (y := bitS is (upd (g 10) i (bitS is ((g 10) i) (nI j)) j) (nI i)) (by rw [c_64]; rfl) ?_
      exact zqJ92   _ _ _ hP hD hS (lv_sub hl [0, 1, 2, 3, 4] rfl)
    · have c_64 := q_b0n c_64
      refine lv_aload_n hx hb dX6_block_67 rfl (lv_at hl 0 rfl) ?_
      refine q_get hx hb hT hown hK hP kw_X6 0 rfl rfl 8 (by decide) kf_X6_31 rfl (v := .ref (ad 10)) rfl dX6_block_68 ?_
      refine lv_iload_n hx hb dX6_block_71 rfl (lv_at hl 2 rfl) ?_
      refine q_iald (f := nF57_10) hx hb hK hP 8 0 rfl rfl (j) rfl (by omega) (by omega) dX6_block_72 ?_
      refine lv_iconst (v := nI 1) hx hb dX6_block_73 (by decide +kernel) ?_
      refine lv_iload_n hx hb dX6_block_74 rfl (lv_at hl 1 rfl) ?_
      refine lv_ishl hx hb dX6_block_75 ?_
      refine lv_ior hx hb dX6_block_76 ?_
      refine lv_goto (tgt := 92) hx hb dX6_block_77 (by decide) ?_
      rw [enF57_10] at hP hD
      rw [enF57_10]
      refine q_top (y := bitS is (upd (g 10) i (bitS is ((g 10) i) (nI j)) j) (nI i)) (by rw [c_64]; rfl) ?_
      exact zqJ92   _ _ _ hP hD hS (lv_sub hl [0, 1, 2, 3, 4] rfl)
  refine lv_aload_n hx hb dX6_block_0 rfl (lv_at hl 0 rfl) ?_
  refine lv_iload_n hx hb dX6_block_1 rfl (lv_at hl 1 rfl) ?_
  refine lv_iload_n hx hb dX6_block_2 rfl (lv_at hl 2 rfl) ?_
  refine q_callIW (As := [.int (nI i), .int (nI j)]) (r := nI 1) (w1 := mdW cA ad g (zs z 4 0)) hx hb hml hown hT hK hP hD hS hA (c_X6_asksTwo l D cA ad g z i j (show i < (z 0) by omega) (show j < (z 0) by omega) (show (z 0) ≤ 16 by omega) (show ¬ i = j by omega)) k_X6_asksTwo kl_X6_136 (q0 := 0) rfl rfl rfl ((mdW_adr _ _ _ _).trans (mdW_adr _ _ _ _).symm) hl rfl rfl (Nat.le_of_ble_eq_true rfl) ⟨⟨rfl, rfl⟩, Nat.le_of_ble_eq_true rfl, Nat.le_of_ble_eq_true rfl⟩ ⟨Nat.zero_le _, Nat.zero_le _⟩ dX6_block_3 (fun H locs hP hD hS => ?_)
  refine lv_if_ne (tgt := 11) hx hb dX6_block_6 (by decide) (fun c_6 => ?_) (fun c_6 => ?_)
  · have c_6 := nI_eq0 (a := 1) (b := 0) (by omega) (by omega) c_6
    refine lv_aload_n hx hb dX6_block_11 rfl (lv_at hl 0 rfl) ?_
    refine q_get hx hb hT hown hK hP kw_X6 0 rfl rfl 8 (by decide) kf_X6_31 rfl (v := .ref (ad 10)) rfl dX6_block_12 ?_
    refine lv_iload_n hx hb dX6_block_15 rfl (lv_at hl 1 rfl) ?_
    refine q_iald (f := g 10) hx hb hK hP 8 0 rfl rfl (i) rfl (by omega) (by omega) dX6_block_16 ?_
    refine lv_iload_n hx hb dX6_block_17 rfl (lv_at hl 2 rfl) ?_
    refine q_callSI (As := [.int (g 10 i), .int (nI j)]) (r := q_b (hasB (g 10 i) (nI j))) hx hb hml hown hT hK hP hD hS hA (c_X6_has l D cA (g 10 i) (nI j)) k_X6_has kl_X6_104 hl rfl rfl (Nat.le_of_ble_eq_true rfl) ⟨⟨rfl, rfl⟩, Nat.le_of_ble_eq_true rfl, Nat.le_of_ble_eq_true rfl⟩ ⟨Nat.zero_le _, Nat.zero_le _⟩ dX6_block_18 (fun H locs hP hD hS => ?_)
    refine lv_istore (lv' := [(4, .int (q_b (hasB (g 10 i) (nI j)))), (0, .ref (ad 80)), (1, .int (nI i)), (2, .int (nI j)), (3, .int (q_b is))]) hx hb dX6_block_21 hl (by decide) rfl (fun ls hl => ?_)
    refine lv_aload_n hx hb dX6_block_23 rfl (lv_at hl 1 rfl) ?_
    refine q_get hx hb hT hown hK hP kw_X6 0 rfl rfl 8 (by decide) kf_X6_31 rfl (v := .ref (ad 10)) rfl dX6_block_24 ?_
    refine lv_iload_n hx hb dX6_block_27 rfl (lv_at hl 2 rfl) ?_
    refine lv_iload_n hx hb dX6_block_28 rfl (lv_at hl 4 rfl) ?_
    refine lv_if_eq (tgt := 45) hx hb dX6_block_29 (by decide) (fun c_29 => ?_) (fun c_29 => ?_)
    · have c_29 := q_b0e c_29
      refine lv_aload_n hx hb dX6_block_45 rfl (lv_at hl 1 rfl) ?_
      refine q_get hx hb hT hown hK hP kw_X6 0 rfl rfl 8 (by decide) kf_X6_31 rfl (v := .ref (ad 10)) rfl dX6_block_46 ?_
      refine lv_iload_n hx hb dX6_block_49 rfl (lv_at hl 2 rfl) ?_
      refine q_iald (f := g 10) hx hb hK hP 8 0 rfl rfl (i) rfl (by omega) (by omega) dX6_block_50 ?_
      refine lv_iconst (v := nI 1) hx hb dX6_block_51 (by decide +kernel) ?_
      refine lv_iload_n hx hb dX6_block_52 rfl (lv_at hl 3 rfl) ?_
      refine lv_ishl hx hb dX6_block_53 ?_
      refine lv_iconst (v := (-1)) hx hb dX6_block_54 (by decide +kernel) ?_
      refine lv_ixor hx hb dX6_block_55 ?_
      refine lv_iand hx hb dX6_block_56 ?_
      refine q_top (y := bitS is ((g 10) i) (nI j)) (by rw [c_29]; rfl) ?_
      exact zqJ57   _ _ _ hP hD hS (lv_sub hl [1, 2, 3, 4, 0] rfl)
    · have c_29 := q_b0n c_29
      refine lv_aload_n hx hb dX6_block_32 rfl (lv_at hl 1 rfl) ?_
      refine q_get hx hb hT hown hK hP kw_X6 0 rfl rfl 8 (by decide) kf_X6_31 rfl (v := .ref (ad 10)) rfl dX6_block_33 ?_
      refine lv_iload_n hx hb dX6_block_36 rfl (lv_at hl 2 rfl) ?_
      refine q_iald (f := g 10) hx hb hK hP 8 0 rfl rfl (i) rfl (by omega) (by omega) dX6_block_37 ?_
      refine lv_iconst (v := nI 1) hx hb dX6_block_38 (by decide +kernel) ?_
      refine lv_iload_n hx hb dX6_block_39 rfl (lv_at hl 3 rfl) ?_
      refine lv_ishl hx hb dX6_block_40 ?_
      refine lv_ior hx hb dX6_block_41 ?_
      refine lv_goto (tgt := 57) hx hb dX6_block_42 (by decide) ?_
      refine q_top (y := bitS is ((g 10) i) (nI j)) (by rw [c_29]; rfl) ?_
      exact zqJ57   _ _ _ hP hD hS (lv_sub hl [1, 2, 3, 4, 0] rfl)
  · have c_6 := nI_eq1 (a := 1) (b := 0) (by omega) (by omega) c_6
    exfalso; omega
abbrev rm_X6_blockx : Room := { frames := 3, cells := 0, slots := 0, locals := 65 }
set_option maxRecDepth 100000 in
set_option maxHeartbeats 4000000 in
theorem c_X6_blockx (l : Launch) (D : va_G) (cA : ClassId) (ad : Nat → Nat) (g : Nat → Nat → Int32) (z : Nat → Nat) (x : Int32) (y : Int32) (is : Bool) (hc : (z 0) ≤ 16) (h12 : ¬ (q_r x (z 0) ∧ q_r y (z 0))) : q_CI l yX6_block [Cond.code yX6_block cX6_block 5 (some .boolean)] rm_X6_blockx D cA [.ref (ad 80), .int x, .int y, .int (q_b is)] (mdW cA ad g z) (nI 0) (mdW cA ad g (zs z 4 1)) := by
  refine q_startI RX6 (by decide +kernel) rfl (Nat.le_of_ble_eq_true rfl) ?_
  intro p e s m below meth c A args H locs ls hx hb hr hml hown hT hlk hP hK hD hA hS hl
  have hl : lv_has ls 5 [(0, .ref (ad 80)), (1, .int x), (2, .int y), (3, .int (q_b is))] := hl
  refine lv_aload_n hx hb dX6_block_0 rfl (lv_at hl 0 rfl) ?_
  refine lv_iload_n hx hb dX6_block_1 rfl (lv_at hl 1 rfl) ?_
  refine lv_iload_n hx hb dX6_block_2 rfl (lv_at hl 2 rfl) ?_
  refine q_callIW (As := [.int x, .int y]) (r := nI 0) (w1 := mdW cA ad g (zs z 4 1)) hx hb hml hown hT hK hP hD hS hA (c_X6_asksTwox l D cA ad g z x y (show (z 0) ≤ 16 by omega) h12) k_X6_asksTwo kl_X6_136 (q0 := 0) rfl rfl rfl ((mdW_adr _ _ _ _).trans (mdW_adr _ _ _ _).symm) hl rfl rfl (Nat.le_of_ble_eq_true rfl) ⟨⟨rfl, rfl⟩, Nat.le_of_ble_eq_true rfl, Nat.le_of_ble_eq_true rfl⟩ ⟨Nat.zero_le _, Nat.zero_le _⟩ dX6_block_3 (fun H locs hP hD hS => ?_)
  refine lv_if_ne (tgt := 11) hx hb dX6_block_6 (by decide) (fun c_6 => ?_) (fun c_6 => ?_)
  · have c_6 := nI_eq0 (a := 0) (b := 0) (by omega) (by omega) c_6
    exfalso; omega
  · have c_6 := nI_eq1 (a := 0) (b := 0) (by omega) (by omega) c_6
    refine lv_iconst (v := nI 0) hx hb dX6_block_9 (by decide +kernel) ?_
    exact q_zret hx hb hr hlk (Or.inl rfl) (by rfl) hP hS dX6_block_10
abbrev rm_X6_blockx3 : Room := { frames := 3, cells := 0, slots := 0, locals := 65 }
set_option maxRecDepth 100000 in
set_option maxHeartbeats 4000000 in
theorem c_X6_blockx3 (l : Launch) (D : va_G) (cA : ClassId) (ad : Nat → Nat) (g : Nat → Nat → Int32) (z : Nat → Nat) (x : Int32) (y : Int32) (is : Bool) (hc : (z 0) ≤ 16) (h1 : q_r x (z 0)) (h2 : q_r y (z 0)) (hne : x = y) : q_CI l yX6_block [Cond.code yX6_block cX6_block 5 (some .boolean)] rm_X6_blockx3 D cA [.ref (ad 80), .int x, .int y, .int (q_b is)] (mdW cA ad g z) (nI 0) (mdW cA ad g (zs z 4 2)) := by
  refine q_startI RX6 (by decide +kernel) rfl (Nat.le_of_ble_eq_true rfl) ?_
  intro p e s m below meth c A args H locs ls hx hb hr hml hown hT hlk hP hK hD hA hS hl
  have hl : lv_has ls 5 [(0, .ref (ad 80)), (1, .int x), (2, .int y), (3, .int (q_b is))] := hl
  refine lv_aload_n hx hb dX6_block_0 rfl (lv_at hl 0 rfl) ?_
  refine lv_iload_n hx hb dX6_block_1 rfl (lv_at hl 1 rfl) ?_
  refine lv_iload_n hx hb dX6_block_2 rfl (lv_at hl 2 rfl) ?_
  refine q_callIW (As := [.int x, .int y]) (r := nI 0) (w1 := mdW cA ad g (zs z 4 2)) hx hb hml hown hT hK hP hD hS hA (c_X6_asksTwox3 l D cA ad g z x y (show (z 0) ≤ 16 by omega) h1 h2 hne) k_X6_asksTwo kl_X6_136 (q0 := 0) rfl rfl rfl ((mdW_adr _ _ _ _).trans (mdW_adr _ _ _ _).symm) hl rfl rfl (Nat.le_of_ble_eq_true rfl) ⟨⟨rfl, rfl⟩, Nat.le_of_ble_eq_true rfl, Nat.le_of_ble_eq_true rfl⟩ ⟨Nat.zero_le _, Nat.zero_le _⟩ dX6_block_3 (fun H locs hP hD hS => ?_)
  refine lv_if_ne (tgt := 11) hx hb dX6_block_6 (by decide) (fun c_6 => ?_) (fun c_6 => ?_)
  · have c_6 := nI_eq0 (a := 0) (b := 0) (by omega) (by omega) c_6
    exfalso; omega
  · have c_6 := nI_eq1 (a := 0) (b := 0) (by omega) (by omega) c_6
    refine lv_iconst (v := nI 0) hx hb dX6_block_9 (by decide +kernel) ?_
    exact q_zret hx hb hr hlk (Or.inl rfl) (by rfl) hP hS dX6_block_10
abbrev rm_X6_weight : Room := { frames := 3, cells := 0, slots := 0, locals := 65 }
set_option maxRecDepth 100000 in
set_option maxHeartbeats 4000000 in
theorem c_X6_weight (l : Launch) (D : va_G) (cA : ClassId) (ad : Nat → Nat) (g : Nat → Nat → Int32) (z : Nat → Nat) (i : Nat) (j : Nat) (hi : i < (z 0)) (hj : j < (z 0)) (hc : (z 0) ≤ 16) (hne : ¬ i = j) : q_CI l yX6_weight [Cond.code yX6_weight cX6_weight 3 (some .int)] rm_X6_weight D cA [.ref (ad 80), .int (nI i), .int (nI j)] (mdW cA ad g z) (nI (wtN g i j)) (mdW cA ad g (zs z 4 0)) := by
  refine q_startI RX6 (by decide +kernel) rfl (Nat.le_of_ble_eq_true rfl) ?_
  intro p e s m below meth c A args H locs ls hx hb hr hml hown hT hlk hP hK hD hA hS hl
  have hl : lv_has ls 3 [(0, .ref (ad 80)), (1, .int (nI i)), (2, .int (nI j))] := hl
  refine lv_aload_n hx hb dX6_weight_0 rfl (lv_at hl 0 rfl) ?_
  refine lv_iload_n hx hb dX6_weight_1 rfl (lv_at hl 1 rfl) ?_
  refine lv_iload_n hx hb dX6_weight_2 rfl (lv_at hl 2 rfl) ?_
  refine q_callIW (As := [.int (nI i), .int (nI j)]) (r := nI 1) (w1 := mdW cA ad g (zs z 4 0)) hx hb hml hown hT hK hP hD hS hA (c_X6_asksTwo l D cA ad g z i j (show i < (z 0) by omega) (show j < (z 0) by omega) (show (z 0) ≤ 16 by omega) (show ¬ i = j by omega)) k_X6_asksTwo kl_X6_136 (q0 := 0) rfl rfl rfl ((mdW_adr _ _ _ _).trans (mdW_adr _ _ _ _).symm) hl rfl rfl (Nat.le_of_ble_eq_true rfl) ⟨⟨rfl, rfl⟩, Nat.le_of_ble_eq_true rfl, Nat.le_of_ble_eq_true rfl⟩ ⟨Nat.zero_le _, Nat.zero_le _⟩ dX6_weight_3 (fun H locs hP hD hS => ?_)
  refine lv_if_eq (tgt := 18) hx hb dX6_weight_6 (by decide) (fun c_6 => ?_) (fun c_6 => ?_)
  · have c_6 := nI_eq1 (a := 1) (b := 0) (by omega) (by omega) c_6
    exfalso; omega
  · have c_6 := nI_eq0 (a := 1) (b := 0) (by omega) (by omega) c_6
    refine lv_aload_n hx hb dX6_weight_9 rfl (lv_at hl 0 rfl) ?_
    refine lv_iload_n hx hb dX6_weight_10 rfl (lv_at hl 1 rfl) ?_
    refine lv_iload_n hx hb dX6_weight_11 rfl (lv_at hl 2 rfl) ?_
    refine q_callIW (As := [.int (nI i), .int (nI j)]) (r := nI (wtN g i j)) (w1 := mdW cA ad g (zs z 4 0)) hx hb hml hown hT hK hP hD hS hA (c_X6_weightOf l D cA ad g (zs z 4 0) i j (show i < 16 by omega) (show j < 16 by omega)) k_X6_weightOf kl_X6_139 (q0 := 0) rfl rfl rfl ((mdW_adr _ _ _ _).trans (mdW_adr _ _ _ _).symm) hl rfl rfl (Nat.le_of_ble_eq_true rfl) ⟨⟨rfl, rfl⟩, Nat.le_of_ble_eq_true rfl, Nat.le_of_ble_eq_true rfl⟩ ⟨Nat.zero_le _, Nat.zero_le _⟩ dX6_weight_12 (fun H locs hP hD hS => ?_)
    refine lv_goto (tgt := 19) hx hb dX6_weight_15 (by decide) ?_
    exact q_iret hx hb hr hlk (by rfl) hP hS dX6_weight_19
abbrev rm_X6_weightx : Room := { frames := 3, cells := 0, slots := 0, locals := 65 }
set_option maxRecDepth 100000 in
set_option maxHeartbeats 4000000 in
theorem c_X6_weightx (l : Launch) (D : va_G) (cA : ClassId) (ad : Nat → Nat) (g : Nat → Nat → Int32) (z : Nat → Nat) (x : Int32) (y : Int32) (hc : (z 0) ≤ 16) (h12 : ¬ (q_r x (z 0) ∧ q_r y (z 0))) : q_CI l yX6_weight [Cond.code yX6_weight cX6_weight 3 (some .int)] rm_X6_weightx D cA [.ref (ad 80), .int x, .int y] (mdW cA ad g z) (nI 0) (mdW cA ad g (zs z 4 1)) := by
  refine q_startI RX6 (by decide +kernel) rfl (Nat.le_of_ble_eq_true rfl) ?_
  intro p e s m below meth c A args H locs ls hx hb hr hml hown hT hlk hP hK hD hA hS hl
  have hl : lv_has ls 3 [(0, .ref (ad 80)), (1, .int x), (2, .int y)] := hl
  refine lv_aload_n hx hb dX6_weight_0 rfl (lv_at hl 0 rfl) ?_
  refine lv_iload_n hx hb dX6_weight_1 rfl (lv_at hl 1 rfl) ?_
  refine lv_iload_n hx hb dX6_weight_2 rfl (lv_at hl 2 rfl) ?_
  refine q_callIW (As := [.int x, .int y]) (r := nI 0) (w1 := mdW cA ad g (zs z 4 1)) hx hb hml hown hT hK hP hD hS hA (c_X6_asksTwox l D cA ad g z x y (show (z 0) ≤ 16 by omega) h12) k_X6_asksTwo kl_X6_136 (q0 := 0) rfl rfl rfl ((mdW_adr _ _ _ _).trans (mdW_adr _ _ _ _).symm) hl rfl rfl (Nat.le_of_ble_eq_true rfl) ⟨⟨rfl, rfl⟩, Nat.le_of_ble_eq_true rfl, Nat.le_of_ble_eq_true rfl⟩ ⟨Nat.zero_le _, Nat.zero_le _⟩ dX6_weight_3 (fun H locs hP hD hS => ?_)
  refine lv_if_eq (tgt := 18) hx hb dX6_weight_6 (by decide) (fun c_6 => ?_) (fun c_6 => ?_)
  · have c_6 := nI_eq1 (a := 0) (b := 0) (by omega) (by omega) c_6
    refine lv_iconst (v := nI 0) hx hb dX6_weight_18 (by decide +kernel) ?_
    exact q_iret hx hb hr hlk (by rfl) hP hS dX6_weight_19
  · have c_6 := nI_eq0 (a := 0) (b := 0) (by omega) (by omega) c_6
    exfalso; omega
abbrev rm_X6_weightx3 : Room := { frames := 3, cells := 0, slots := 0, locals := 65 }
set_option maxRecDepth 100000 in
set_option maxHeartbeats 4000000 in
theorem c_X6_weightx3 (l : Launch) (D : va_G) (cA : ClassId) (ad : Nat → Nat) (g : Nat → Nat → Int32) (z : Nat → Nat) (x : Int32) (y : Int32) (hc : (z 0) ≤ 16) (h1 : q_r x (z 0)) (h2 : q_r y (z 0)) (hne : x = y) : q_CI l yX6_weight [Cond.code yX6_weight cX6_weight 3 (some .int)] rm_X6_weightx3 D cA [.ref (ad 80), .int x, .int y] (mdW cA ad g z) (nI 0) (mdW cA ad g (zs z 4 2)) := by
  refine q_startI RX6 (by decide +kernel) rfl (Nat.le_of_ble_eq_true rfl) ?_
  intro p e s m below meth c A args H locs ls hx hb hr hml hown hT hlk hP hK hD hA hS hl
  have hl : lv_has ls 3 [(0, .ref (ad 80)), (1, .int x), (2, .int y)] := hl
  refine lv_aload_n hx hb dX6_weight_0 rfl (lv_at hl 0 rfl) ?_
  refine lv_iload_n hx hb dX6_weight_1 rfl (lv_at hl 1 rfl) ?_
  refine lv_iload_n hx hb dX6_weight_2 rfl (lv_at hl 2 rfl) ?_
  refine q_callIW (As := [.int x, .int y]) (r := nI 0) (w1 := mdW cA ad g (zs z 4 2)) hx hb hml hown hT hK hP hD hS hA (c_X6_asksTwox3 l D cA ad g z x y (show (z 0) ≤ 16 by omega) h1 h2 hne) k_X6_asksTwo kl_X6_136 (q0 := 0) rfl rfl rfl ((mdW_adr _ _ _ _).trans (mdW_adr _ _ _ _).symm) hl rfl rfl (Nat.le_of_ble_eq_true rfl) ⟨⟨rfl, rfl⟩, Nat.le_of_ble_eq_true rfl, Nat.le_of_ble_eq_true rfl⟩ ⟨Nat.zero_le _, Nat.zero_le _⟩ dX6_weight_3 (fun H locs hP hD hS => ?_)
  refine lv_if_eq (tgt := 18) hx hb dX6_weight_6 (by decide) (fun c_6 => ?_) (fun c_6 => ?_)
  · have c_6 := nI_eq1 (a := 0) (b := 0) (by omega) (by omega) c_6
    refine lv_iconst (v := nI 0) hx hb dX6_weight_18 (by decide +kernel) ?_
    exact q_iret hx hb hr hlk (by rfl) hP hS dX6_weight_19
  · have c_6 := nI_eq0 (a := 0) (b := 0) (by omega) (by omega) c_6
    exfalso; omega
abbrev rm_X6_whyNot : Room := { frames := 4, cells := 0, slots := 0, locals := 93 }
set_option maxRecDepth 100000 in
set_option maxHeartbeats 4000000 in
theorem c_X6_whyNot (l : Launch) (D : va_G) (cA : ClassId) (ad : Nat → Nat) (g : Nat → Nat → Int32) (z : Nat → Nat) (i : Nat) (j : Nat) (hi : i < (z 0)) (hj : j < (z 0)) (hc : (z 0) ≤ 16) (hne : ¬ i = j) (hPo : ∀ k, k < (z 0) → (g 3) k = (-1) ∨ q_r ((g 3) k) 8) : q_CI l yX6_whyNot [Cond.code yX6_whyNot cX6_whyNot 3 (some .int)] rm_X6_whyNot D cA [.ref (ad 80), .int (nI i), .int (nI j)] (mdW cA ad g z) (nI (rsN g (z 0) i j)) (mdW cA ad g (zs z 4 0)) := by
  refine q_startI RX6 (by decide +kernel) rfl (Nat.le_of_ble_eq_true rfl) ?_
  intro p e s m below meth c A args H locs ls hx hb hr hml hown hT hlk hP hK hD hA hS hl
  have hl : lv_has ls 3 [(0, .ref (ad 80)), (1, .int (nI i)), (2, .int (nI j))] := hl
  refine lv_aload_n hx hb dX6_whyNot_0 rfl (lv_at hl 0 rfl) ?_
  refine lv_iload_n hx hb dX6_whyNot_1 rfl (lv_at hl 1 rfl) ?_
  refine lv_iload_n hx hb dX6_whyNot_2 rfl (lv_at hl 2 rfl) ?_
  refine q_callIW (As := [.int (nI i), .int (nI j)]) (r := nI 1) (w1 := mdW cA ad g (zs z 4 0)) hx hb hml hown hT hK hP hD hS hA (c_X6_asksTwo l D cA ad g z i j (show i < (z 0) by omega) (show j < (z 0) by omega) (show (z 0) ≤ 16 by omega) (show ¬ i = j by omega)) k_X6_asksTwo kl_X6_136 (q0 := 0) rfl rfl rfl ((mdW_adr _ _ _ _).trans (mdW_adr _ _ _ _).symm) hl rfl rfl (Nat.le_of_ble_eq_true rfl) ⟨⟨rfl, rfl⟩, Nat.le_of_ble_eq_true rfl, Nat.le_of_ble_eq_true rfl⟩ ⟨Nat.zero_le _, Nat.zero_le _⟩ dX6_whyNot_3 (fun H locs hP hD hS => ?_)
  refine lv_if_eq (tgt := 18) hx hb dX6_whyNot_6 (by decide) (fun c_6 => ?_) (fun c_6 => ?_)
  · have c_6 := nI_eq1 (a := 1) (b := 0) (by omega) (by omega) c_6
    exfalso; omega
  · have c_6 := nI_eq0 (a := 1) (b := 0) (by omega) (by omega) c_6
    refine lv_aload_n hx hb dX6_whyNot_9 rfl (lv_at hl 0 rfl) ?_
    refine lv_iload_n hx hb dX6_whyNot_10 rfl (lv_at hl 1 rfl) ?_
    refine lv_iload_n hx hb dX6_whyNot_11 rfl (lv_at hl 2 rfl) ?_
    refine q_callIW (As := [.int (nI i), .int (nI j)]) (r := nI (rsN g (z 0) i j)) (w1 := mdW cA ad g (zs z 4 0)) hx hb hml hown hT hK hP hD hS hA (c_X6_reason l D cA ad g (zs z 4 0) i j (show i < (z 0) by omega) (show j < (z 0) by omega) (show (z 0) ≤ 16 by omega) hPo) k_X6_reason kl_X6_152 (q0 := 0) rfl rfl rfl ((mdW_adr _ _ _ _).trans (mdW_adr _ _ _ _).symm) hl rfl rfl (Nat.le_of_ble_eq_true rfl) ⟨⟨rfl, rfl⟩, Nat.le_of_ble_eq_true rfl, Nat.le_of_ble_eq_true rfl⟩ ⟨Nat.zero_le _, Nat.zero_le _⟩ dX6_whyNot_12 (fun H locs hP hD hS => ?_)
    refine lv_goto (tgt := 19) hx hb dX6_whyNot_15 (by decide) ?_
    exact q_iret hx hb hr hlk (by rfl) hP hS dX6_whyNot_19
abbrev rm_X6_whyNotx : Room := { frames := 3, cells := 0, slots := 0, locals := 65 }
set_option maxRecDepth 100000 in
set_option maxHeartbeats 4000000 in
theorem c_X6_whyNotx (l : Launch) (D : va_G) (cA : ClassId) (ad : Nat → Nat) (g : Nat → Nat → Int32) (z : Nat → Nat) (x : Int32) (y : Int32) (hc : (z 0) ≤ 16) (h12 : ¬ (q_r x (z 0) ∧ q_r y (z 0))) : q_CI l yX6_whyNot [Cond.code yX6_whyNot cX6_whyNot 3 (some .int)] rm_X6_whyNotx D cA [.ref (ad 80), .int x, .int y] (mdW cA ad g z) (nI 0) (mdW cA ad g (zs z 4 1)) := by
  refine q_startI RX6 (by decide +kernel) rfl (Nat.le_of_ble_eq_true rfl) ?_
  intro p e s m below meth c A args H locs ls hx hb hr hml hown hT hlk hP hK hD hA hS hl
  have hl : lv_has ls 3 [(0, .ref (ad 80)), (1, .int x), (2, .int y)] := hl
  refine lv_aload_n hx hb dX6_whyNot_0 rfl (lv_at hl 0 rfl) ?_
  refine lv_iload_n hx hb dX6_whyNot_1 rfl (lv_at hl 1 rfl) ?_
  refine lv_iload_n hx hb dX6_whyNot_2 rfl (lv_at hl 2 rfl) ?_
  refine q_callIW (As := [.int x, .int y]) (r := nI 0) (w1 := mdW cA ad g (zs z 4 1)) hx hb hml hown hT hK hP hD hS hA (c_X6_asksTwox l D cA ad g z x y (show (z 0) ≤ 16 by omega) h12) k_X6_asksTwo kl_X6_136 (q0 := 0) rfl rfl rfl ((mdW_adr _ _ _ _).trans (mdW_adr _ _ _ _).symm) hl rfl rfl (Nat.le_of_ble_eq_true rfl) ⟨⟨rfl, rfl⟩, Nat.le_of_ble_eq_true rfl, Nat.le_of_ble_eq_true rfl⟩ ⟨Nat.zero_le _, Nat.zero_le _⟩ dX6_whyNot_3 (fun H locs hP hD hS => ?_)
  refine lv_if_eq (tgt := 18) hx hb dX6_whyNot_6 (by decide) (fun c_6 => ?_) (fun c_6 => ?_)
  · have c_6 := nI_eq1 (a := 0) (b := 0) (by omega) (by omega) c_6
    refine lv_iconst (v := nI 0) hx hb dX6_whyNot_18 (by decide +kernel) ?_
    exact q_iret hx hb hr hlk (by rfl) hP hS dX6_whyNot_19
  · have c_6 := nI_eq0 (a := 0) (b := 0) (by omega) (by omega) c_6
    exfalso; omega
abbrev rm_X6_whyNotx3 : Room := { frames := 3, cells := 0, slots := 0, locals := 65 }
set_option maxRecDepth 100000 in
set_option maxHeartbeats 4000000 in
theorem c_X6_whyNotx3 (l : Launch) (D : va_G) (cA : ClassId) (ad : Nat → Nat) (g : Nat → Nat → Int32) (z : Nat → Nat) (x : Int32) (y : Int32) (hc : (z 0) ≤ 16) (h1 : q_r x (z 0)) (h2 : q_r y (z 0)) (hne : x = y) : q_CI l yX6_whyNot [Cond.code yX6_whyNot cX6_whyNot 3 (some .int)] rm_X6_whyNotx3 D cA [.ref (ad 80), .int x, .int y] (mdW cA ad g z) (nI 0) (mdW cA ad g (zs z 4 2)) := by
  refine q_startI RX6 (by decide +kernel) rfl (Nat.le_of_ble_eq_true rfl) ?_
  intro p e s m below meth c A args H locs ls hx hb hr hml hown hT hlk hP hK hD hA hS hl
  have hl : lv_has ls 3 [(0, .ref (ad 80)), (1, .int x), (2, .int y)] := hl
  refine lv_aload_n hx hb dX6_whyNot_0 rfl (lv_at hl 0 rfl) ?_
  refine lv_iload_n hx hb dX6_whyNot_1 rfl (lv_at hl 1 rfl) ?_
  refine lv_iload_n hx hb dX6_whyNot_2 rfl (lv_at hl 2 rfl) ?_
  refine q_callIW (As := [.int x, .int y]) (r := nI 0) (w1 := mdW cA ad g (zs z 4 2)) hx hb hml hown hT hK hP hD hS hA (c_X6_asksTwox3 l D cA ad g z x y (show (z 0) ≤ 16 by omega) h1 h2 hne) k_X6_asksTwo kl_X6_136 (q0 := 0) rfl rfl rfl ((mdW_adr _ _ _ _).trans (mdW_adr _ _ _ _).symm) hl rfl rfl (Nat.le_of_ble_eq_true rfl) ⟨⟨rfl, rfl⟩, Nat.le_of_ble_eq_true rfl, Nat.le_of_ble_eq_true rfl⟩ ⟨Nat.zero_le _, Nat.zero_le _⟩ dX6_whyNot_3 (fun H locs hP hD hS => ?_)
  refine lv_if_eq (tgt := 18) hx hb dX6_whyNot_6 (by decide) (fun c_6 => ?_) (fun c_6 => ?_)
  · have c_6 := nI_eq1 (a := 0) (b := 0) (by omega) (by omega) c_6
    refine lv_iconst (v := nI 0) hx hb dX6_whyNot_18 (by decide +kernel) ?_
    exact q_iret hx hb hr hlk (by rfl) hP hS dX6_whyNot_19
  · have c_6 := nI_eq0 (a := 0) (b := 0) (by omega) (by omega) c_6
    exfalso; omega
