theorem iN_t {x lo hi : Int32} (h : ¬ x < lo ∧ x ≤ hi) : iN x lo hi = true := decide_eq_true h
theorem iN_e {x lo hi : Int32} (h : iN x lo hi = true) : ¬ x < lo ∧ x ≤ hi := of_decide_eq_true h
theorem iN_n {x lo hi : Int32} (h : iN x lo hi = false) : ¬ (¬ x < lo ∧ x ≤ hi) := of_decide_eq_false h
theorem q_nimp {P : Prop} {C : Prop} (h : P) (h2 : ¬ P) : C := absurd h h2
theorem mB_nI {i n : Nat} (h : i < n) (hn : n ≤ 1000) : mB (nI i) n = true := decide_eq_true ((q_r.iff (by omega)).2 (q_r_nI h))
theorem mB_F {w : Int32} {n : Nat} (h : q_r w n) (hn : n ≤ 1000) : ¬ mB w n = false := fun z => mB_f z hn h
theorem mB_T {w : Int32} {n : Nat} (h : ¬ q_r w n) (hn : n ≤ 1000) : ¬ mB w n = true := fun z => h (mB_t z hn)
/-- two that are mentions -/
def sgn : Unit := ()
abbrev rm_X6_areYears : Room := { frames := 1, cells := 0, slots := 0, locals := 22 }
set_option maxRecDepth 100000 in
set_option maxHeartbeats 4000000 in
theorem c_X6_areYears (l : Launch) (D : va_G) (cA : ClassId) (ad : Nat → Nat) (g : Nat → Nat → Int32) (z : Nat → Nat) (lo : Int32) (hi : Int32)  : q_CI l yX6_areYears [Cond.code yX6_areYears cX6_areYears 3 (some .boolean)] rm_X6_areYears D cA [.ref (ad 80), .int lo, .int hi] (mdW cA ad g z) (q_b (iN lo (nI 0) (nI 999) && iN hi lo (nI 999))) (mdW cA ad g z) := by
  refine q_startI RX6 (by decide +kernel) rfl (Nat.le_of_ble_eq_true rfl) ?_
  intro p e s m below meth c A args H locs ls hx hb hr hml hown hT hlk hP hK hD hA hS hl
  have hl : lv_has ls 3 [(0, .ref (ad 80)), (1, .int lo), (2, .int hi)] := hl
  refine lv_iload_n hx hb dX6_areYears_0 rfl (lv_at hl 1 rfl) ?_
  refine lv_iconst (v := nI 0) hx hb dX6_areYears_1 (by decide +kernel) ?_
  refine lv_sipush (v := nI 999) hx hb dX6_areYears_2 (by decide +kernel) ?_
  refine q_callSI (As := [.int lo, .int (nI 0), .int (nI 999)]) (r := q_b (iN lo (nI 0) (nI 999))) hx hb hml hown hT hK hP hD hS hA (c_X6_isIn l D cA lo (nI 0) (nI 999)) k_X6_isIn kl_X6_89 hl rfl rfl (Nat.le_of_ble_eq_true rfl) ⟨⟨rfl, rfl⟩, Nat.le_of_ble_eq_true rfl, Nat.le_of_ble_eq_true rfl⟩ ⟨Nat.zero_le _, Nat.zero_le _⟩ dX6_areYears_5 (fun H locs hP hD hS => ?_)
  refine lv_if_eq (tgt := 26) hx hb dX6_areYears_8 (by decide) (fun c_8 => ?_) (fun c_8 => ?_)
  · have c_8 := q_b0e c_8
    refine lv_iconst (v := nI 0) hx hb dX6_areYears_26 (by decide +kernel) ?_
    exact q_zret hx hb hr hlk (Or.inl rfl) (by first | exact q_bt (by rw [c_8, c_19]; rfl) | exact q_bf (by rw [c_8]; rfl) | exact q_bf (by rw [c_8, c_19]; rfl)) hP hS dX6_areYears_27
  · have c_8 := q_b0n c_8
    refine lv_iload_n hx hb dX6_areYears_11 rfl (lv_at hl 2 rfl) ?_
    refine lv_iload_n hx hb dX6_areYears_12 rfl (lv_at hl 1 rfl) ?_
    refine lv_sipush (v := nI 999) hx hb dX6_areYears_13 (by decide +kernel) ?_
    refine q_callSI (As := [.int hi, .int lo, .int (nI 999)]) (r := q_b (iN hi lo (nI 999))) hx hb hml hown hT hK hP hD hS hA (c_X6_isIn l D cA hi lo (nI 999)) k_X6_isIn kl_X6_89 hl rfl rfl (Nat.le_of_ble_eq_true rfl) ⟨⟨rfl, rfl⟩, Nat.le_of_ble_eq_true rfl, Nat.le_of_ble_eq_true rfl⟩ ⟨Nat.zero_le _, Nat.zero_le _⟩ dX6_areYears_16 (fun H locs hP hD hS => ?_)
    refine lv_if_eq (tgt := 26) hx hb dX6_areYears_19 (by decide) (fun c_19 => ?_) (fun c_19 => ?_)
    · have c_19 := q_b0e c_19
      refine lv_iconst (v := nI 0) hx hb dX6_areYears_26 (by decide +kernel) ?_
      exact q_zret hx hb hr hlk (Or.inl rfl) (by first | exact q_bt (by rw [c_8, c_19]; rfl) | exact q_bf (by rw [c_8]; rfl) | exact q_bf (by rw [c_8, c_19]; rfl)) hP hS dX6_areYears_27
    · have c_19 := q_b0n c_19
      refine lv_iconst (v := nI 1) hx hb dX6_areYears_22 (by decide +kernel) ?_
      refine lv_goto (tgt := 27) hx hb dX6_areYears_23 (by decide) ?_
      exact q_zret hx hb hr hlk (Or.inr rfl) (by first | exact q_bt (by rw [c_8, c_19]; rfl) | exact q_bf (by rw [c_8]; rfl) | exact q_bf (by rw [c_8, c_19]; rfl)) hP hS dX6_areYears_27
abbrev rm_X6_asksTwo : Room := { frames := 2, cells := 0, slots := 0, locals := 43 }
set_option maxRecDepth 100000 in
set_option maxHeartbeats 4000000 in
theorem c_X6_asksTwo (l : Launch) (D : va_G) (cA : ClassId) (ad : Nat → Nat) (g : Nat → Nat → Int32) (z : Nat → Nat) (i : Nat) (j : Nat) (hi : i < (z 0)) (hj : j < (z 0)) (hc : (z 0) ≤ 16) (hne : ¬ i = j) : q_CI l yX6_asksTwo [Cond.code yX6_asksTwo cX6_asksTwo 3 (some .boolean)] rm_X6_asksTwo D cA [.ref (ad 80), .int (nI i), .int (nI j)] (mdW cA ad g z) (nI 1) (mdW cA ad g (zs z 4 0)) := by
  refine q_startI RX6 (by decide +kernel) rfl (Nat.le_of_ble_eq_true rfl) ?_
  intro p e s m below meth c A args H locs ls hx hb hr hml hown hT hlk hP hK hD hA hS hl
  have hl : lv_has ls 3 [(0, .ref (ad 80)), (1, .int (nI i)), (2, .int (nI j))] := hl
  refine lv_aload_n hx hb dX6_asksTwo_0 rfl (lv_at hl 0 rfl) ?_
  refine lv_aload_n hx hb dX6_asksTwo_1 rfl (lv_at hl 0 rfl) ?_
  refine lv_iload_n hx hb dX6_asksTwo_2 rfl (lv_at hl 1 rfl) ?_
  refine q_callIW (As := [.int (nI i)]) (r := q_b (mB (nI i) (z 0))) (w1 := mdW cA ad g z) hx hb hml hown hT hK hP hD hS hA (c_X6_isMention l D cA ad g z (nI i) (show (z 0) ≤ 16 by omega)) k_X6_isMention kl_X6_111 (q0 := 0) rfl rfl rfl ((mdW_adr _ _ _ _).trans (mdW_adr _ _ _ _).symm) hl rfl rfl (Nat.le_of_ble_eq_true rfl) ⟨⟨rfl, rfl⟩, Nat.le_of_ble_eq_true rfl, Nat.le_of_ble_eq_true rfl⟩ ⟨Nat.zero_le _, Nat.zero_le _⟩ dX6_asksTwo_3 (fun H locs hP hD hS => ?_)
  refine lv_if_eq (tgt := 17) hx hb dX6_asksTwo_6 (by decide) (fun c_6 => ?_) (fun c_6 => ?_)
  · have c_6 := q_b0e c_6
    exact absurd c_6 (mB_F (q_r_nI (by omega)) (by omega))
  · have c_6 := q_b0n c_6
    refine lv_aload_n hx hb dX6_asksTwo_9 rfl (lv_at hl 0 rfl) ?_
    refine lv_iload_n hx hb dX6_asksTwo_10 rfl (lv_at hl 2 rfl) ?_
    refine q_callIW (As := [.int (nI j)]) (r := q_b (mB (nI j) (z 0))) (w1 := mdW cA ad g z) hx hb hml hown hT hK hP hD hS hA (c_X6_isMention l D cA ad g z (nI j) (show (z 0) ≤ 16 by omega)) k_X6_isMention kl_X6_111 (q0 := 0) rfl rfl rfl ((mdW_adr _ _ _ _).trans (mdW_adr _ _ _ _).symm) hl rfl rfl (Nat.le_of_ble_eq_true rfl) ⟨⟨rfl, rfl⟩, Nat.le_of_ble_eq_true rfl, Nat.le_of_ble_eq_true rfl⟩ ⟨Nat.zero_le _, Nat.zero_le _⟩ dX6_asksTwo_11 (fun H locs hP hD hS => ?_)
    refine lv_if_ne (tgt := 21) hx hb dX6_asksTwo_14 (by decide) (fun c_14 => ?_) (fun c_14 => ?_)
    · have c_14 := q_b0n c_14
      refine lv_iload_n hx hb dX6_asksTwo_21 rfl (lv_at hl 1 rfl) ?_
      refine lv_iload_n hx hb dX6_asksTwo_22 rfl (lv_at hl 2 rfl) ?_
      refine lv_icmp_ne (tgt := 30) hx hb dX6_asksTwo_23 (by decide) (fun c_23 => ?_) (fun c_23 => ?_)
      · have c_23 := nI_eq0 (a := i) (b := j) (by omega) (by omega) c_23
        refine lv_iconst (v := nI 0) hx hb dX6_asksTwo_30 (by decide +kernel) ?_
        refine q_put (ty := .int) (ws1 := mdW cA ad g (zs z 4 0)) hx hb hT hown hK hP hD hS kw_X6 tyX6_ok nmX6 0 rfl rfl 27 (by decide) kf_X6_82 rfl rfl (by decide +kernel) rfl rfl (Nat.le_of_ble_eq_true rfl) rfl dX6_asksTwo_31 (fun H locs hP hD hS => ?_)
        refine lv_aload_n hx hb dX6_asksTwo_34 rfl (lv_at hl 0 rfl) ?_
        refine q_get hx hb hT hown hK hP kw_X6 0 rfl rfl 27 (by decide) kf_X6_82 rfl (v := .int (nI 0)) rfl dX6_asksTwo_35 ?_
        refine lv_if_ne (tgt := 45) hx hb dX6_asksTwo_38 (by decide) (fun c_38 => ?_) (fun c_38 => ?_)
        · have c_38 := nI_eq0 (a := 0) (b := 0) (by omega) (by omega) c_38
          exfalso; omega
        · have c_38 := nI_eq1 (a := 0) (b := 0) (by omega) (by omega) c_38
          refine lv_iconst (v := nI 1) hx hb dX6_asksTwo_41 (by decide +kernel) ?_
          refine lv_goto (tgt := 46) hx hb dX6_asksTwo_42 (by decide) ?_
          exact q_zret hx hb hr hlk (Or.inr rfl) (by rfl) hP hS dX6_asksTwo_46
      · have c_23 := nI_eq1 (a := i) (b := j) (by omega) (by omega) c_23
        exfalso; omega
    · have c_14 := q_b0e c_14
      exact absurd c_14 (mB_F (q_r_nI (by omega)) (by omega))
abbrev rm_X6_asksTwox : Room := { frames := 2, cells := 0, slots := 0, locals := 43 }
set_option maxRecDepth 100000 in
set_option maxHeartbeats 4000000 in
theorem c_X6_asksTwox (l : Launch) (D : va_G) (cA : ClassId) (ad : Nat → Nat) (g : Nat → Nat → Int32) (z : Nat → Nat) (x : Int32) (y : Int32) (hc : (z 0) ≤ 16) (h12 : ¬ (q_r x (z 0) ∧ q_r y (z 0))) : q_CI l yX6_asksTwo [Cond.code yX6_asksTwo cX6_asksTwo 3 (some .boolean)] rm_X6_asksTwox D cA [.ref (ad 80), .int x, .int y] (mdW cA ad g z) (nI 0) (mdW cA ad g (zs z 4 1)) := by
  refine q_startI RX6 (by decide +kernel) rfl (Nat.le_of_ble_eq_true rfl) ?_
  intro p e s m below meth c A args H locs ls hx hb hr hml hown hT hlk hP hK hD hA hS hl
  have hl : lv_has ls 3 [(0, .ref (ad 80)), (1, .int x), (2, .int y)] := hl
  refine lv_aload_n hx hb dX6_asksTwo_0 rfl (lv_at hl 0 rfl) ?_
  refine lv_aload_n hx hb dX6_asksTwo_1 rfl (lv_at hl 0 rfl) ?_
  refine lv_iload_n hx hb dX6_asksTwo_2 rfl (lv_at hl 1 rfl) ?_
  refine q_callIW (As := [.int x]) (r := q_b (mB x (z 0))) (w1 := mdW cA ad g z) hx hb hml hown hT hK hP hD hS hA (c_X6_isMention l D cA ad g z x (show (z 0) ≤ 16 by omega)) k_X6_isMention kl_X6_111 (q0 := 0) rfl rfl rfl ((mdW_adr _ _ _ _).trans (mdW_adr _ _ _ _).symm) hl rfl rfl (Nat.le_of_ble_eq_true rfl) ⟨⟨rfl, rfl⟩, Nat.le_of_ble_eq_true rfl, Nat.le_of_ble_eq_true rfl⟩ ⟨Nat.zero_le _, Nat.zero_le _⟩ dX6_asksTwo_3 (fun H locs hP hD hS => ?_)
  refine lv_if_eq (tgt := 17) hx hb dX6_asksTwo_6 (by decide) (fun c_6 => ?_) (fun c_6 => ?_)
  · have c_6 := q_b0e c_6
    refine lv_iconst (v := nI 1) hx hb dX6_asksTwo_17 (by decide +kernel) ?_
    refine lv_goto (tgt := 31) hx hb dX6_asksTwo_18 (by decide) ?_
    refine q_put (ty := .int) (ws1 := mdW cA ad g (zs z 4 1)) hx hb hT hown hK hP hD hS kw_X6 tyX6_ok nmX6 0 rfl rfl 27 (by decide) kf_X6_82 rfl rfl (by decide +kernel) rfl rfl (Nat.le_of_ble_eq_true rfl) rfl dX6_asksTwo_31 (fun H locs hP hD hS => ?_)
    refine lv_aload_n hx hb dX6_asksTwo_34 rfl (lv_at hl 0 rfl) ?_
    refine q_get hx hb hT hown hK hP kw_X6 0 rfl rfl 27 (by decide) kf_X6_82 rfl (v := .int (nI 1)) rfl dX6_asksTwo_35 ?_
    refine lv_if_ne (tgt := 45) hx hb dX6_asksTwo_38 (by decide) (fun c_38 => ?_) (fun c_38 => ?_)
    · have c_38 := nI_eq0 (a := 1) (b := 0) (by omega) (by omega) c_38
      refine lv_iconst (v := nI 0) hx hb dX6_asksTwo_45 (by decide +kernel) ?_
      exact q_zret hx hb hr hlk (Or.inl rfl) (by rfl) hP hS dX6_asksTwo_46
    · have c_38 := nI_eq1 (a := 1) (b := 0) (by omega) (by omega) c_38
      exfalso; omega
  · have c_6 := q_b0n c_6
    refine lv_aload_n hx hb dX6_asksTwo_9 rfl (lv_at hl 0 rfl) ?_
    refine lv_iload_n hx hb dX6_asksTwo_10 rfl (lv_at hl 2 rfl) ?_
    refine q_callIW (As := [.int y]) (r := q_b (mB y (z 0))) (w1 := mdW cA ad g z) hx hb hml hown hT hK hP hD hS hA (c_X6_isMention l D cA ad g z y (show (z 0) ≤ 16 by omega)) k_X6_isMention kl_X6_111 (q0 := 0) rfl rfl rfl ((mdW_adr _ _ _ _).trans (mdW_adr _ _ _ _).symm) hl rfl rfl (Nat.le_of_ble_eq_true rfl) ⟨⟨rfl, rfl⟩, Nat.le_of_ble_eq_true rfl, Nat.le_of_ble_eq_true rfl⟩ ⟨Nat.zero_le _, Nat.zero_le _⟩ dX6_asksTwo_11 (fun H locs hP hD hS => ?_)
    refine lv_if_ne (tgt := 21) hx hb dX6_asksTwo_14 (by decide) (fun c_14 => ?_) (fun c_14 => ?_)
    · have c_14 := q_b0n c_14
      exact absurd ⟨mB_t c_6 (by omega), mB_t c_14 (by omega)⟩ h12
    · have c_14 := q_b0e c_14
      refine lv_iconst (v := nI 1) hx hb dX6_asksTwo_17 (by decide +kernel) ?_
      refine lv_goto (tgt := 31) hx hb dX6_asksTwo_18 (by decide) ?_
      refine q_put (ty := .int) (ws1 := mdW cA ad g (zs z 4 1)) hx hb hT hown hK hP hD hS kw_X6 tyX6_ok nmX6 0 rfl rfl 27 (by decide) kf_X6_82 rfl rfl (by decide +kernel) rfl rfl (Nat.le_of_ble_eq_true rfl) rfl dX6_asksTwo_31 (fun H locs hP hD hS => ?_)
      refine lv_aload_n hx hb dX6_asksTwo_34 rfl (lv_at hl 0 rfl) ?_
      refine q_get hx hb hT hown hK hP kw_X6 0 rfl rfl 27 (by decide) kf_X6_82 rfl (v := .int (nI 1)) rfl dX6_asksTwo_35 ?_
      refine lv_if_ne (tgt := 45) hx hb dX6_asksTwo_38 (by decide) (fun c_38 => ?_) (fun c_38 => ?_)
      · have c_38 := nI_eq0 (a := 1) (b := 0) (by omega) (by omega) c_38
        refine lv_iconst (v := nI 0) hx hb dX6_asksTwo_45 (by decide +kernel) ?_
        exact q_zret hx hb hr hlk (Or.inl rfl) (by rfl) hP hS dX6_asksTwo_46
      · have c_38 := nI_eq1 (a := 1) (b := 0) (by omega) (by omega) c_38
        exfalso; omega
abbrev rm_X6_asksTwox3 : Room := { frames := 2, cells := 0, slots := 0, locals := 43 }
set_option maxRecDepth 100000 in
set_option maxHeartbeats 4000000 in
theorem c_X6_asksTwox3 (l : Launch) (D : va_G) (cA : ClassId) (ad : Nat → Nat) (g : Nat → Nat → Int32) (z : Nat → Nat) (x : Int32) (y : Int32) (hc : (z 0) ≤ 16) (h1 : q_r x (z 0)) (h2 : q_r y (z 0)) (hne : x = y) : q_CI l yX6_asksTwo [Cond.code yX6_asksTwo cX6_asksTwo 3 (some .boolean)] rm_X6_asksTwox3 D cA [.ref (ad 80), .int x, .int y] (mdW cA ad g z) (nI 0) (mdW cA ad g (zs z 4 2)) := by
  refine q_startI RX6 (by decide +kernel) rfl (Nat.le_of_ble_eq_true rfl) ?_
  intro p e s m below meth c A args H locs ls hx hb hr hml hown hT hlk hP hK hD hA hS hl
  have hl : lv_has ls 3 [(0, .ref (ad 80)), (1, .int x), (2, .int y)] := hl
  refine lv_aload_n hx hb dX6_asksTwo_0 rfl (lv_at hl 0 rfl) ?_
  refine lv_aload_n hx hb dX6_asksTwo_1 rfl (lv_at hl 0 rfl) ?_
  refine lv_iload_n hx hb dX6_asksTwo_2 rfl (lv_at hl 1 rfl) ?_
  refine q_callIW (As := [.int x]) (r := q_b (mB x (z 0))) (w1 := mdW cA ad g z) hx hb hml hown hT hK hP hD hS hA (c_X6_isMention l D cA ad g z x (show (z 0) ≤ 16 by omega)) k_X6_isMention kl_X6_111 (q0 := 0) rfl rfl rfl ((mdW_adr _ _ _ _).trans (mdW_adr _ _ _ _).symm) hl rfl rfl (Nat.le_of_ble_eq_true rfl) ⟨⟨rfl, rfl⟩, Nat.le_of_ble_eq_true rfl, Nat.le_of_ble_eq_true rfl⟩ ⟨Nat.zero_le _, Nat.zero_le _⟩ dX6_asksTwo_3 (fun H locs hP hD hS => ?_)
  refine lv_if_eq (tgt := 17) hx hb dX6_asksTwo_6 (by decide) (fun c_6 => ?_) (fun c_6 => ?_)
  · have c_6 := q_b0e c_6
    exact absurd c_6 (mB_F h1 (by omega))
  · have c_6 := q_b0n c_6
    refine lv_aload_n hx hb dX6_asksTwo_9 rfl (lv_at hl 0 rfl) ?_
    refine lv_iload_n hx hb dX6_asksTwo_10 rfl (lv_at hl 2 rfl) ?_
    refine q_callIW (As := [.int y]) (r := q_b (mB y (z 0))) (w1 := mdW cA ad g z) hx hb hml hown hT hK hP hD hS hA (c_X6_isMention l D cA ad g z y (show (z 0) ≤ 16 by omega)) k_X6_isMention kl_X6_111 (q0 := 0) rfl rfl rfl ((mdW_adr _ _ _ _).trans (mdW_adr _ _ _ _).symm) hl rfl rfl (Nat.le_of_ble_eq_true rfl) ⟨⟨rfl, rfl⟩, Nat.le_of_ble_eq_true rfl, Nat.le_of_ble_eq_true rfl⟩ ⟨Nat.zero_le _, Nat.zero_le _⟩ dX6_asksTwo_11 (fun H locs hP hD hS => ?_)
    refine lv_if_ne (tgt := 21) hx hb dX6_asksTwo_14 (by decide) (fun c_14 => ?_) (fun c_14 => ?_)
    · have c_14 := q_b0n c_14
      refine lv_iload_n hx hb dX6_asksTwo_21 rfl (lv_at hl 1 rfl) ?_
      refine lv_iload_n hx hb dX6_asksTwo_22 rfl (lv_at hl 2 rfl) ?_
      refine lv_icmp_ne (tgt := 30) hx hb dX6_asksTwo_23 (by decide) (fun c_23 => ?_) (fun c_23 => ?_)
      · exact absurd hne c_23
      · refine lv_iconst (v := nI 2) hx hb dX6_asksTwo_26 (by decide +kernel) ?_
        refine lv_goto (tgt := 31) hx hb dX6_asksTwo_27 (by decide) ?_
        refine q_put (ty := .int) (ws1 := mdW cA ad g (zs z 4 2)) hx hb hT hown hK hP hD hS kw_X6 tyX6_ok nmX6 0 rfl rfl 27 (by decide) kf_X6_82 rfl rfl (by decide +kernel) rfl rfl (Nat.le_of_ble_eq_true rfl) rfl dX6_asksTwo_31 (fun H locs hP hD hS => ?_)
        refine lv_aload_n hx hb dX6_asksTwo_34 rfl (lv_at hl 0 rfl) ?_
        refine q_get hx hb hT hown hK hP kw_X6 0 rfl rfl 27 (by decide) kf_X6_82 rfl (v := .int (nI 2)) rfl dX6_asksTwo_35 ?_
        refine lv_if_ne (tgt := 45) hx hb dX6_asksTwo_38 (by decide) (fun c_38 => ?_) (fun c_38 => ?_)
        · have c_38 := nI_eq0 (a := 2) (b := 0) (by omega) (by omega) c_38
          refine lv_iconst (v := nI 0) hx hb dX6_asksTwo_45 (by decide +kernel) ?_
          exact q_zret hx hb hr hlk (Or.inl rfl) (by rfl) hP hS dX6_asksTwo_46
        · have c_38 := nI_eq1 (a := 2) (b := 0) (by omega) (by omega) c_38
          exfalso; omega
    · have c_14 := q_b0e c_14
      exact absurd c_14 (mB_F h2 (by omega))
abbrev rm_X6_tellsYear : Room := { frames := 2, cells := 0, slots := 0, locals := 43 }
set_option maxRecDepth 100000 in
set_option maxHeartbeats 4000000 in
theorem c_X6_tellsYear (l : Launch) (D : va_G) (cA : ClassId) (ad : Nat → Nat) (g : Nat → Nat → Int32) (z : Nat → Nat) (k : Nat) (is : Bool) (hk : k < (z 0)) (hc : (z 0) ≤ 16) : q_CI l yX6_tellsYear [Cond.code yX6_tellsYear cX6_tellsYear 3 (some .int)] rm_X6_tellsYear D cA [.ref (ad 80), .int (nI k), .int (q_b is)] (mdW cA ad g z) (bif is then (g 18) k else (g 17) k) (mdW cA ad g (zs z 4 0)) := by
  refine q_startI RX6 (by decide +kernel) rfl (Nat.le_of_ble_eq_true rfl) ?_
  intro p e s m below meth c A args H locs ls hx hb hr hml hown hT hlk hP hK hD hA hS hl
  have hl : lv_has ls 3 [(0, .ref (ad 80)), (1, .int (nI k)), (2, .int (q_b is))] := hl
  have zqJ47 : ∀ (H : Heap) (locs : List Loc) (ls : Array Slot), va_P D vwCl (mdW cA ad g (zs z 4 0)) H → va_D A (mdW cA ad g (zs z 4 0)) → va_S A s.heap H locs → lv_has ls 3 [(0, .ref (ad 80)), (1, .int (nI k)), (2, .int (q_b is))] → W p l e rm_X6_tellsYear s m args below meth c H locs 0 0 (q_GI D (bif is then (g 18) k else (g 17) k) (mdW cA ad g (zs z 4 0)) A below args s) (F0 m 47 ls [.int (bif is then (g 18) k else (g 17) k)]) := by
    intro   H locs ls hP hD hS hl
    exact q_iret hx hb hr hlk (by rfl) hP hS dX6_tellsYear_47
  refine lv_aload_n hx hb dX6_tellsYear_0 rfl (lv_at hl 0 rfl) ?_
  refine lv_aload_n hx hb dX6_tellsYear_1 rfl (lv_at hl 0 rfl) ?_
  refine lv_iload_n hx hb dX6_tellsYear_2 rfl (lv_at hl 1 rfl) ?_
  refine q_callIW (As := [.int (nI k)]) (r := q_b (mB (nI k) (z 0))) (w1 := mdW cA ad g z) hx hb hml hown hT hK hP hD hS hA (c_X6_isMention l D cA ad g z (nI k) (show (z 0) ≤ 16 by omega)) k_X6_isMention kl_X6_111 (q0 := 0) rfl rfl rfl ((mdW_adr _ _ _ _).trans (mdW_adr _ _ _ _).symm) hl rfl rfl (Nat.le_of_ble_eq_true rfl) ⟨⟨rfl, rfl⟩, Nat.le_of_ble_eq_true rfl, Nat.le_of_ble_eq_true rfl⟩ ⟨Nat.zero_le _, Nat.zero_le _⟩ dX6_tellsYear_3 (fun H locs hP hD hS => ?_)
  refine lv_if_eq (tgt := 13) hx hb dX6_tellsYear_6 (by decide) (fun c_6 => ?_) (fun c_6 => ?_)
  · have c_6 := q_b0e c_6
    exact absurd c_6 (mB_F (q_r_nI (by omega)) (by omega))
  · have c_6 := q_b0n c_6
    refine lv_iconst (v := nI 0) hx hb dX6_tellsYear_9 (by decide +kernel) ?_
    refine lv_goto (tgt := 14) hx hb dX6_tellsYear_10 (by decide) ?_
    refine q_put (ty := .int) (ws1 := mdW cA ad g (zs z 4 0)) hx hb hT hown hK hP hD hS kw_X6 tyX6_ok nmX6 0 rfl rfl 27 (by decide) kf_X6_82 rfl rfl (by decide +kernel) rfl rfl (Nat.le_of_ble_eq_true rfl) rfl dX6_tellsYear_14 (fun H locs hP hD hS => ?_)
    refine lv_aload_n hx hb dX6_tellsYear_17 rfl (lv_at hl 0 rfl) ?_
    refine q_get hx hb hT hown hK hP kw_X6 0 rfl rfl 27 (by decide) kf_X6_82 rfl (v := .int (nI 0)) rfl dX6_tellsYear_18 ?_
    refine lv_if_le (tgt := 28) hx hb dX6_tellsYear_21 (by decide) (fun c_21 => ?_) (fun c_21 => ?_)
    · have c_21 := nI_le1 (a := 0) (b := 0) (by omega) (by omega) c_21
      refine lv_iload_n hx hb dX6_tellsYear_28 rfl (lv_at hl 2 rfl) ?_
      refine lv_if_eq (tgt := 41) hx hb dX6_tellsYear_29 (by decide) (fun c_29 => ?_) (fun c_29 => ?_)
      · have c_29 := q_b0e c_29
        refine lv_aload_n hx hb dX6_tellsYear_41 rfl (lv_at hl 0 rfl) ?_
        refine q_get hx hb hT hown hK hP kw_X6 0 rfl rfl 13 (by decide) kf_X6_46 rfl (v := .ref (ad 17)) rfl dX6_tellsYear_42 ?_
        refine lv_iload_n hx hb dX6_tellsYear_45 rfl (lv_at hl 1 rfl) ?_
        refine q_iald (f := g 17) hx hb hK hP 13 0 rfl rfl (k) rfl (by omega) (by omega) dX6_tellsYear_46 ?_
        refine q_top (y := (bif is then (g 18) k else (g 17) k)) (by exact q_cf c_29) ?_
        exact zqJ47   _ _ _ hP hD hS (lv_sub hl [0, 1, 2] rfl)
      · have c_29 := q_b0n c_29
        refine lv_aload_n hx hb dX6_tellsYear_32 rfl (lv_at hl 0 rfl) ?_
        refine q_get hx hb hT hown hK hP kw_X6 0 rfl rfl 14 (by decide) kf_X6_49 rfl (v := .ref (ad 18)) rfl dX6_tellsYear_33 ?_
        refine lv_iload_n hx hb dX6_tellsYear_36 rfl (lv_at hl 1 rfl) ?_
        refine q_iald (f := g 18) hx hb hK hP 14 0 rfl rfl (k) rfl (by omega) (by omega) dX6_tellsYear_37 ?_
        refine lv_goto (tgt := 47) hx hb dX6_tellsYear_38 (by decide) ?_
        refine q_top (y := (bif is then (g 18) k else (g 17) k)) (by exact q_ct c_29) ?_
        exact zqJ47   _ _ _ hP hD hS (lv_sub hl [0, 1, 2] rfl)
    · have c_21 := nI_le0 (a := 0) (b := 0) (by omega) (by omega) c_21
      exfalso; omega
abbrev rm_X6_tellsYearx : Room := { frames := 2, cells := 0, slots := 0, locals := 43 }
set_option maxRecDepth 100000 in
set_option maxHeartbeats 4000000 in
theorem c_X6_tellsYearx (l : Launch) (D : va_G) (cA : ClassId) (ad : Nat → Nat) (g : Nat → Nat → Int32) (z : Nat → Nat) (w : Int32) (is : Bool) (hw : ¬ q_r w (z 0)) (hc : (z 0) ≤ 16) : q_CI l yX6_tellsYear [Cond.code yX6_tellsYear cX6_tellsYear 3 (some .int)] rm_X6_tellsYearx D cA [.ref (ad 80), .int w, .int (q_b is)] (mdW cA ad g z) (nI 0) (mdW cA ad g (zs z 4 1)) := by
  refine q_startI RX6 (by decide +kernel) rfl (Nat.le_of_ble_eq_true rfl) ?_
  intro p e s m below meth c A args H locs ls hx hb hr hml hown hT hlk hP hK hD hA hS hl
  have hl : lv_has ls 3 [(0, .ref (ad 80)), (1, .int w), (2, .int (q_b is))] := hl
  refine lv_aload_n hx hb dX6_tellsYear_0 rfl (lv_at hl 0 rfl) ?_
  refine lv_aload_n hx hb dX6_tellsYear_1 rfl (lv_at hl 0 rfl) ?_
  refine lv_iload_n hx hb dX6_tellsYear_2 rfl (lv_at hl 1 rfl) ?_
  refine q_callIW (As := [.int w]) (r := q_b (mB w (z 0))) (w1 := mdW cA ad g z) hx hb hml hown hT hK hP hD hS hA (c_X6_isMention l D cA ad g z w (show (z 0) ≤ 16 by omega)) k_X6_isMention kl_X6_111 (q0 := 0) rfl rfl rfl ((mdW_adr _ _ _ _).trans (mdW_adr _ _ _ _).symm) hl rfl rfl (Nat.le_of_ble_eq_true rfl) ⟨⟨rfl, rfl⟩, Nat.le_of_ble_eq_true rfl, Nat.le_of_ble_eq_true rfl⟩ ⟨Nat.zero_le _, Nat.zero_le _⟩ dX6_tellsYear_3 (fun H locs hP hD hS => ?_)
  refine lv_if_eq (tgt := 13) hx hb dX6_tellsYear_6 (by decide) (fun c_6 => ?_) (fun c_6 => ?_)
  · have c_6 := q_b0e c_6
    refine lv_iconst (v := nI 1) hx hb dX6_tellsYear_13 (by decide +kernel) ?_
    refine q_put (ty := .int) (ws1 := mdW cA ad g (zs z 4 1)) hx hb hT hown hK hP hD hS kw_X6 tyX6_ok nmX6 0 rfl rfl 27 (by decide) kf_X6_82 rfl rfl (by decide +kernel) rfl rfl (Nat.le_of_ble_eq_true rfl) rfl dX6_tellsYear_14 (fun H locs hP hD hS => ?_)
    refine lv_aload_n hx hb dX6_tellsYear_17 rfl (lv_at hl 0 rfl) ?_
    refine q_get hx hb hT hown hK hP kw_X6 0 rfl rfl 27 (by decide) kf_X6_82 rfl (v := .int (nI 1)) rfl dX6_tellsYear_18 ?_
    refine lv_if_le (tgt := 28) hx hb dX6_tellsYear_21 (by decide) (fun c_21 => ?_) (fun c_21 => ?_)
    · have c_21 := nI_le1 (a := 1) (b := 0) (by omega) (by omega) c_21
      exfalso; omega
    · have c_21 := nI_le0 (a := 1) (b := 0) (by omega) (by omega) c_21
      refine lv_iconst (v := nI 0) hx hb dX6_tellsYear_24 (by decide +kernel) ?_
      refine lv_goto (tgt := 47) hx hb dX6_tellsYear_25 (by decide) ?_
      exact q_iret hx hb hr hlk (by rfl) hP hS dX6_tellsYear_47
  · have c_6 := q_b0n c_6
    exact absurd c_6 (mB_T hw (by omega))
abbrev rm_X6_year : Room := { frames := 3, cells := 0, slots := 0, locals := 65 }
set_option maxRecDepth 100000 in
set_option maxHeartbeats 4000000 in
theorem c_X6_year (l : Launch) (D : va_G) (cA : ClassId) (ad : Nat → Nat) (g : Nat → Nat → Int32) (z : Nat → Nat) (k : Nat) (is : Bool) (hk : k < (z 0)) (hc : (z 0) ≤ 16) : q_CI l yX6_year [Cond.code yX6_year cX6_year 3 (some .int)] rm_X6_year D cA [.ref (ad 80), .int (nI k), .int (q_b is)] (mdW cA ad g z) (bif is then (g 18) k else (g 17) k) (mdW cA ad g (zs z 4 0)) := by
  refine q_startI RX6 (by decide +kernel) rfl (Nat.le_of_ble_eq_true rfl) ?_
  intro p e s m below meth c A args H locs ls hx hb hr hml hown hT hlk hP hK hD hA hS hl
  have hl : lv_has ls 3 [(0, .ref (ad 80)), (1, .int (nI k)), (2, .int (q_b is))] := hl
  refine lv_aload_n hx hb dX6_year_0 rfl (lv_at hl 0 rfl) ?_
  refine lv_iload_n hx hb dX6_year_1 rfl (lv_at hl 1 rfl) ?_
  refine lv_iload_n hx hb dX6_year_2 rfl (lv_at hl 2 rfl) ?_
  refine q_callIW (As := [.int (nI k), .int (q_b is)]) (r := (bif is then (g 18) k else (g 17) k)) (w1 := mdW cA ad g (zs z 4 0)) hx hb hml hown hT hK hP hD hS hA (c_X6_tellsYear l D cA ad g z k is (show k < (z 0) by omega) (show (z 0) ≤ 16 by omega)) k_X6_tellsYear kl_X6_132 (q0 := 0) rfl rfl rfl ((mdW_adr _ _ _ _).trans (mdW_adr _ _ _ _).symm) hl rfl rfl (Nat.le_of_ble_eq_true rfl) ⟨⟨rfl, rfl⟩, Nat.le_of_ble_eq_true rfl, Nat.le_of_ble_eq_true rfl⟩ ⟨Nat.zero_le _, Nat.zero_le _⟩ dX6_year_3 (fun H locs hP hD hS => ?_)
  exact q_iret hx hb hr hlk (by rfl) hP hS dX6_year_6
abbrev rm_X6_yearx : Room := { frames := 3, cells := 0, slots := 0, locals := 65 }
set_option maxRecDepth 100000 in
set_option maxHeartbeats 4000000 in
theorem c_X6_yearx (l : Launch) (D : va_G) (cA : ClassId) (ad : Nat → Nat) (g : Nat → Nat → Int32) (z : Nat → Nat) (w : Int32) (is : Bool) (hw : ¬ q_r w (z 0)) (hc : (z 0) ≤ 16) : q_CI l yX6_year [Cond.code yX6_year cX6_year 3 (some .int)] rm_X6_yearx D cA [.ref (ad 80), .int w, .int (q_b is)] (mdW cA ad g z) (nI 0) (mdW cA ad g (zs z 4 1)) := by
  refine q_startI RX6 (by decide +kernel) rfl (Nat.le_of_ble_eq_true rfl) ?_
  intro p e s m below meth c A args H locs ls hx hb hr hml hown hT hlk hP hK hD hA hS hl
  have hl : lv_has ls 3 [(0, .ref (ad 80)), (1, .int w), (2, .int (q_b is))] := hl
  refine lv_aload_n hx hb dX6_year_0 rfl (lv_at hl 0 rfl) ?_
  refine lv_iload_n hx hb dX6_year_1 rfl (lv_at hl 1 rfl) ?_
  refine lv_iload_n hx hb dX6_year_2 rfl (lv_at hl 2 rfl) ?_
  refine q_callIW (As := [.int w, .int (q_b is)]) (r := nI 0) (w1 := mdW cA ad g (zs z 4 1)) hx hb hml hown hT hK hP hD hS hA (c_X6_tellsYearx l D cA ad g z w is hw (show (z 0) ≤ 16 by omega)) k_X6_tellsYear kl_X6_132 (q0 := 0) rfl rfl rfl ((mdW_adr _ _ _ _).trans (mdW_adr _ _ _ _).symm) hl rfl rfl (Nat.le_of_ble_eq_true rfl) ⟨⟨rfl, rfl⟩, Nat.le_of_ble_eq_true rfl, Nat.le_of_ble_eq_true rfl⟩ ⟨Nat.zero_le _, Nat.zero_le _⟩ dX6_year_3 (fun H locs hP hD hS => ?_)
  exact q_iret hx hb hr hlk (by rfl) hP hS dX6_year_6
abbrev rm_X6_yearAnew : Room := { frames := 3, cells := 0, slots := 0, locals := 65 }
set_option maxRecDepth 100000 in
set_option maxHeartbeats 4000000 in
theorem c_X6_yearAnew (l : Launch) (D : va_G) (cA : ClassId) (ad : Nat → Nat) (g : Nat → Nat → Int32) (z : Nat → Nat) (k : Nat) (is : Bool) (hk : k < (z 0)) (hc : (z 0) ≤ 16) : q_CI l yX6_yearAnew [Cond.code yX6_yearAnew cX6_yearAnew 3 (some .int)] rm_X6_yearAnew D cA [.ref (ad 80), .int (nI k), .int (q_b is)] (mdW cA ad g z) (bif is then (g 18) k else (g 17) k) (mdW cA ad g (zs z 4 0)) := by
  refine q_startI RX6 (by decide +kernel) rfl (Nat.le_of_ble_eq_true rfl) ?_
  intro p e s m below meth c A args H locs ls hx hb hr hml hown hT hlk hP hK hD hA hS hl
  have hl : lv_has ls 3 [(0, .ref (ad 80)), (1, .int (nI k)), (2, .int (q_b is))] := hl
  refine lv_aload_n hx hb dX6_yearAnew_0 rfl (lv_at hl 0 rfl) ?_
  refine lv_iload_n hx hb dX6_yearAnew_1 rfl (lv_at hl 1 rfl) ?_
  refine lv_iload_n hx hb dX6_yearAnew_2 rfl (lv_at hl 2 rfl) ?_
  refine q_callIW (As := [.int (nI k), .int (q_b is)]) (r := (bif is then (g 18) k else (g 17) k)) (w1 := mdW cA ad g (zs z 4 0)) hx hb hml hown hT hK hP hD hS hA (c_X6_tellsYear l D cA ad g z k is (show k < (z 0) by omega) (show (z 0) ≤ 16 by omega)) k_X6_tellsYear kl_X6_132 (q0 := 0) rfl rfl rfl ((mdW_adr _ _ _ _).trans (mdW_adr _ _ _ _).symm) hl rfl rfl (Nat.le_of_ble_eq_true rfl) ⟨⟨rfl, rfl⟩, Nat.le_of_ble_eq_true rfl, Nat.le_of_ble_eq_true rfl⟩ ⟨Nat.zero_le _, Nat.zero_le _⟩ dX6_yearAnew_3 (fun H locs hP hD hS => ?_)
  exact q_iret hx hb hr hlk (by rfl) hP hS dX6_yearAnew_6
abbrev rm_X6_yearAnewx : Room := { frames := 3, cells := 0, slots := 0, locals := 65 }
set_option maxRecDepth 100000 in
set_option maxHeartbeats 4000000 in
theorem c_X6_yearAnewx (l : Launch) (D : va_G) (cA : ClassId) (ad : Nat → Nat) (g : Nat → Nat → Int32) (z : Nat → Nat) (w : Int32) (is : Bool) (hw : ¬ q_r w (z 0)) (hc : (z 0) ≤ 16) : q_CI l yX6_yearAnew [Cond.code yX6_yearAnew cX6_yearAnew 3 (some .int)] rm_X6_yearAnewx D cA [.ref (ad 80), .int w, .int (q_b is)] (mdW cA ad g z) (nI 0) (mdW cA ad g (zs z 4 1)) := by
  refine q_startI RX6 (by decide +kernel) rfl (Nat.le_of_ble_eq_true rfl) ?_
  intro p e s m below meth c A args H locs ls hx hb hr hml hown hT hlk hP hK hD hA hS hl
  have hl : lv_has ls 3 [(0, .ref (ad 80)), (1, .int w), (2, .int (q_b is))] := hl
  refine lv_aload_n hx hb dX6_yearAnew_0 rfl (lv_at hl 0 rfl) ?_
  refine lv_iload_n hx hb dX6_yearAnew_1 rfl (lv_at hl 1 rfl) ?_
  refine lv_iload_n hx hb dX6_yearAnew_2 rfl (lv_at hl 2 rfl) ?_
  refine q_callIW (As := [.int w, .int (q_b is)]) (r := nI 0) (w1 := mdW cA ad g (zs z 4 1)) hx hb hml hown hT hK hP hD hS hA (c_X6_tellsYearx l D cA ad g z w is hw (show (z 0) ≤ 16 by omega)) k_X6_tellsYear kl_X6_132 (q0 := 0) rfl rfl rfl ((mdW_adr _ _ _ _).trans (mdW_adr _ _ _ _).symm) hl rfl rfl (Nat.le_of_ble_eq_true rfl) ⟨⟨rfl, rfl⟩, Nat.le_of_ble_eq_true rfl, Nat.le_of_ble_eq_true rfl⟩ ⟨Nat.zero_le _, Nat.zero_le _⟩ dX6_yearAnew_3 (fun H locs hP hD hS => ?_)
  exact q_iret hx hb hr hlk (by rfl) hP hS dX6_yearAnew_6
theorem c_X6_datesv (l : Launch) (D : va_G) (cA : ClassId) (ad : Nat → Nat) (g : Nat → Nat → Int32) (z : Nat → Nat) (u0 : Nat) (dF : Nat → Int32) (dL : Nat → Int32) (bb : Bool) (hc : (z 0) ≤ 16) (hE : ∀ k, k < (z 1) → q_r ((g 14) k) 16 ∧ q_r ((g 15) k) 16) (ht : (z 1) ≤ 40) (hst : dtH u0 (g 14) (g 15) (g 16) (g 12) (g 13) (g 19) (g 20) (z 1) (z 0)) (hdt : (dtD u0 (g 14) (g 15) (g 16) (g 12) (g 13) (g 19) (g 20) (z 1) (z 0)).1 = dF ∧ (dtD u0 (g 14) (g 15) (g 16) (g 12) (g 13) (g 19) (g 20) (z 1) (z 0)).2.1 = dL ∧ (dtD u0 (g 14) (g 15) (g 16) (g 12) (g 13) (g 19) (g 20) (z 1) (z 0)).2.2.1 = bb) : q_CI l yX6_dates [Cond.code yX6_dates cX6_dates 6 (some .boolean)] rm_X6_dates D cA [.ref (ad 80)] (mdW cA ad g z) (q_b bb) (mdW cA ad (gs (gs g 19 dF) 20 dL) z) := by
  have h := c_X6_dates l D cA ad g z u0 hc hE ht hst
  rw [hdt.1, hdt.2.1, hdt.2.2] at h
  exact h
abbrev rm_X6_findsT1 : Room := { frames := 1, cells := 0, slots := 0, locals := 25 }
set_option maxRecDepth 100000 in
set_option maxHeartbeats 4000000 in
theorem c_X6_findsT1 (l : Launch) (D : va_G) (cA : ClassId) (ad : Nat → Nat) (g : Nat → Nat → Int32) (z : Nat → Nat) (k : Nat) (lo : Int32) (hi : Int32) (u0 : Nat) (dF : Nat → Int32) (dL : Nat → Int32) (lo2 : Int32) (hi2 : Int32) (hk : k < (z 0)) (hc : (z 0) ≤ 16) (hE : ∀ k, k < (z 1) → q_r ((g 14) k) 16 ∧ q_r ((g 15) k) 16) (ht : (z 1) ≤ 40) (hlo2 : lo2 = mx (g 12 k) lo) (hhi2 : hi2 = mn (g 13 k) hi) (hst : dtH u0 (g 14) (g 15) (g 16) (upd (g 12) k lo2) (upd (g 13) k hi2) (g 19) (g 20) (z 1) (z 0)) (hdt : (dtD u0 (g 14) (g 15) (g 16) (upd (g 12) k lo2) (upd (g 13) k hi2) (g 19) (g 20) (z 1) (z 0)).1 = dF ∧ (dtD u0 (g 14) (g 15) (g 16) (upd (g 12) k lo2) (upd (g 13) k hi2) (g 19) (g 20) (z 1) (z 0)).2.1 = dL ∧ (dtD u0 (g 14) (g 15) (g 16) (upd (g 12) k lo2) (upd (g 13) k hi2) (g 19) (g 20) (z 1) (z 0)).2.2.1 = true) : q_CI l yX6_finds [Cond.code yX6_finds cX6_finds 8 (some .int)] rm_X6_findsT1 D cA [.ref (ad 80), .int (nI k), .int lo, .int hi, .int (nI 1)] (mdW cA ad g z) (nI (mvd dF dL (g 17) (g 18) (z 0))) (mdW cA ad (gs (gs (gs (gs (gs (gs g 12 (upd (g 12) k lo2)) 13 (upd (g 13) k hi2)) 17 (copyTo (g 17) dF (z 0))) 18 (copyTo (g 18) dL (z 0))) 19 dF) 20 dL) z) := by
  refine q_startI RX6 (by decide +kernel) rfl (Nat.le_of_ble_eq_true rfl) ?_
  intro p e s m below meth c A args H locs ls hx hb hr hml hown hT hlk hP hK hD hA hS hl
  have hl : lv_has ls 8 [(0, .ref (ad 80)), (1, .int (nI k)), (2, .int lo), (3, .int hi), (4, .int (nI 1))] := hl
  have zqJ51 : ∀ (H : Heap) (locs : List Loc) (ls : Array Slot), va_P D vwCl (mdW cA ad (gs g 12 (upd (g 12) k lo2)) z) H → va_D A (mdW cA ad (gs g 12 (upd (g 12) k lo2)) z) → va_S A s.heap H locs → lv_has ls 8 [(0, .ref (ad 80)), (1, .int (nI k)), (2, .int lo), (3, .int hi), (4, .int (nI 1)), (5, .int (g 12 k)), (6, .int (g 13 k))] → W p l e rm_X6_findsT1 s m args below meth c H locs 0 0 (q_GI D (nI (mvd dF dL (g 17) (g 18) (z 0))) (mdW cA ad (gs (gs (gs (gs (gs (gs g 12 (upd (g 12) k lo2)) 13 (upd (g 13) k hi2)) 17 (copyTo (g 17) dF (z 0))) 18 (copyTo (g 18) dL (z 0))) 19 dF) 20 dL) z) A below args s) (F0 m 51 ls [.int hi2, .int (nI k), .ref (ad 13)]) := by
    intro   H locs ls hP hD hS hl
    refine q_iast (f := g 13) (ws1 := mdW cA ad (gs (gs g 12 (upd (g 12) k lo2)) 13 (upd (g 13) k hi2)) z) hx hb hK hP hD hS 12 0 rfl rfl (k) rfl (by omega) (by omega) rfl dX6_finds_51 (fun H locs hP hD hS => ?_)
    refine lv_aload_n hx hb dX6_finds_52 rfl (lv_at hl 0 rfl) ?_
    refine q_callIW (As := []) (r := q_b true) (w1 := mdW cA ad (gs (gs (gs (gs g 12 (upd (g 12) k lo2)) 13 (upd (g 13) k hi2)) 19 dF) 20 dL) z) hx hb hml hown hT hK hP hD hS hA (c_X6_datesv l D cA ad (gs (gs g 12 (upd (g 12) k lo2)) 13 (upd (g 13) k hi2)) z u0 dF dL true (show (z 0) ≤ 16 by omega) hE (show (z 1) ≤ 40 by omega) hst hdt) k_X6_dates kl_X6_114 (q0 := 0) rfl rfl rfl ((mdW_adr _ _ _ _).trans (mdW_adr _ _ _ _).symm) hl rfl rfl (Nat.le_of_ble_eq_true rfl) ⟨⟨rfl, rfl⟩, Nat.le_of_ble_eq_true rfl, Nat.le_of_ble_eq_true rfl⟩ ⟨Nat.zero_le _, Nat.zero_le _⟩ dX6_finds_53 (fun H locs hP hD hS => ?_)
    refine lv_if_eq (tgt := 66) hx hb dX6_finds_56 (by decide) (fun c_56 => ?_) (fun c_56 => ?_)
    · have c_56 := q_b0e c_56
      exact absurd c_56 (by decide)
    · have c_56 := q_b0n c_56
      refine lv_aload_n hx hb dX6_finds_59 rfl (lv_at hl 0 rfl) ?_
      refine q_callIW (As := []) (r := nI (mvd dF dL (g 17) (g 18) (z 0))) (w1 := mdW cA ad (gs (gs (gs (gs g 12 (upd (g 12) k lo2)) 13 (upd (g 13) k hi2)) 19 dF) 20 dL) z) hx hb hml hown hT hK hP hD hS hA (c_X6_moves l D cA ad (gs (gs (gs (gs g 12 (upd (g 12) k lo2)) 13 (upd (g 13) k hi2)) 19 dF) 20 dL) z (show (z 0) ≤ 16 by omega)) k_X6_moves kl_X6_118 (q0 := 0) rfl rfl rfl ((mdW_adr _ _ _ _).trans (mdW_adr _ _ _ _).symm) hl rfl rfl (Nat.le_of_ble_eq_true rfl) ⟨⟨rfl, rfl⟩, Nat.le_of_ble_eq_true rfl, Nat.le_of_ble_eq_true rfl⟩ ⟨Nat.zero_le _, Nat.zero_le _⟩ dX6_finds_60 (fun H locs hP hD hS => ?_)
      refine lv_goto (tgt := 67) hx hb dX6_finds_63 (by decide) ?_
      refine lv_istore (lv' := [(7, .int (nI (mvd dF dL (g 17) (g 18) (z 0)))), (0, .ref (ad 80)), (1, .int (nI k)), (2, .int lo), (3, .int hi), (4, .int (nI 1)), (5, .int (g 12 k)), (6, .int (g 13 k))]) hx hb dX6_finds_67 hl (by decide) rfl (fun ls hl => ?_)
      refine lv_iload hx hb dX6_finds_69 (lv_at hl 5 rfl) ?_
      refine lv_if_eq (tgt := 87) hx hb dX6_finds_71 (by decide) (fun c_71 => ?_) (fun c_71 => ?_)
      · have c_71 := nI_eq1 (a := 1) (b := 0) (by omega) (by omega) c_71
        exfalso; omega
      · have c_71 := nI_eq0 (a := 1) (b := 0) (by omega) (by omega) c_71
        refine lv_iload hx hb dX6_finds_74 (lv_at hl 0 rfl) ?_
        refine lv_iconst (v := (-1)) hx hb dX6_finds_76 (by decide +kernel) ?_
        refine lv_icmp_eq (tgt := 87) hx hb dX6_finds_77 (by decide) (fun c_77 => ?_) (fun c_77 => ?_)
        · exact absurd c_77 (q_nIne (Nat.le_trans (mvd_le _ _ _ _ _) hc))
        · refine lv_aload_n hx hb dX6_finds_80 rfl (lv_at hl 1 rfl) ?_
          refine q_callVW (As := []) (w1 := mdW cA ad (gs (gs (gs (gs (gs (gs g 12 (upd (g 12) k lo2)) 13 (upd (g 13) k hi2)) 17 (copyTo (g 17) dF (z 0))) 18 (copyTo (g 18) dL (z 0))) 19 dF) 20 dL) z) hx hb hml hown hT hK hP hD hS hA (c_X6_keeps l D cA ad (gs (gs (gs (gs g 12 (upd (g 12) k lo2)) 13 (upd (g 13) k hi2)) 19 dF) 20 dL) z (show (z 0) ≤ 16 by omega)) k_X6_keeps kl_X6_122 (q0 := 0) rfl rfl rfl ((mdW_adr _ _ _ _).trans (mdW_adr _ _ _ _).symm) hl rfl rfl (Nat.le_of_ble_eq_true rfl) ⟨⟨rfl, rfl⟩, Nat.le_of_ble_eq_true rfl, Nat.le_of_ble_eq_true rfl⟩ ⟨Nat.zero_le _, Nat.zero_le _⟩ dX6_finds_81 (fun H locs hP hD hS => ?_)
          refine lv_goto (tgt := 103) hx hb dX6_finds_84 (by decide) ?_
          refine lv_iload hx hb dX6_finds_103 (lv_at hl 0 rfl) ?_
          exact q_iret hx hb hr hlk (by rfl) hP hS dX6_finds_105
  have zqJ33 : ∀ (H : Heap) (locs : List Loc) (ls : Array Slot), va_P D vwCl (mdW cA ad g z) H → va_D A (mdW cA ad g z) → va_S A s.heap H locs → lv_has ls 8 [(0, .ref (ad 80)), (1, .int (nI k)), (2, .int lo), (3, .int hi), (4, .int (nI 1)), (5, .int (g 12 k)), (6, .int (g 13 k))] → W p l e rm_X6_findsT1 s m args below meth c H locs 0 0 (q_GI D (nI (mvd dF dL (g 17) (g 18) (z 0))) (mdW cA ad (gs (gs (gs (gs (gs (gs g 12 (upd (g 12) k lo2)) 13 (upd (g 13) k hi2)) 17 (copyTo (g 17) dF (z 0))) 18 (copyTo (g 18) dL (z 0))) 19 dF) 20 dL) z) A below args s) (F0 m 33 ls [.int lo2, .int (nI k), .ref (ad 12)]) := by
    intro   H locs ls hP hD hS hl
    refine q_iast (f := g 12) (ws1 := mdW cA ad (gs g 12 (upd (g 12) k lo2)) z) hx hb hK hP hD hS 11 0 rfl rfl (k) rfl (by omega) (by omega) rfl dX6_finds_33 (fun H locs hP hD hS => ?_)
    refine lv_aload_n hx hb dX6_finds_34 rfl (lv_at hl 0 rfl) ?_
    refine q_get hx hb hT hown hK hP kw_X6 0 rfl rfl 12 (by decide) kf_X6_43 rfl (v := .ref (ad 13)) rfl dX6_finds_35 ?_
    refine lv_iload_n hx hb dX6_finds_38 rfl (lv_at hl 1 rfl) ?_
    refine lv_iload_n hx hb dX6_finds_39 rfl (lv_at hl 3 rfl) ?_
    refine lv_iload hx hb dX6_finds_40 (lv_at hl 6 rfl) ?_
    refine lv_icmp_ge (tgt := 49) hx hb dX6_finds_42 (by decide) (fun c_42 => ?_) (fun c_42 => ?_)
    · refine lv_iload hx hb dX6_finds_49 (lv_at hl 6 rfl) ?_
      refine q_top (y := hi2) (by rw [hhi2]; first | exact mn_t c_42 | exact mn_f c_42) ?_
      exact zqJ51   _ _ _ hP hD hS (lv_sub hl [0, 1, 2, 3, 4, 5, 6] rfl)
    · refine lv_iload_n hx hb dX6_finds_45 rfl (lv_at hl 3 rfl) ?_
      refine lv_goto (tgt := 51) hx hb dX6_finds_46 (by decide) ?_
      refine q_top (y := hi2) (by rw [hhi2]; first | exact mn_t c_42 | exact mn_f c_42) ?_
      exact zqJ51   _ _ _ hP hD hS (lv_sub hl [0, 1, 2, 3, 4, 5, 6] rfl)
  refine lv_aload_n hx hb dX6_finds_0 rfl (lv_at hl 0 rfl) ?_
  refine q_get hx hb hT hown hK hP kw_X6 0 rfl rfl 11 (by decide) kf_X6_40 rfl (v := .ref (ad 12)) rfl dX6_finds_1 ?_
  refine lv_iload_n hx hb dX6_finds_4 rfl (lv_at hl 1 rfl) ?_
  refine q_iald (f := g 12) hx hb hK hP 11 0 rfl rfl (k) rfl (by omega) (by omega) dX6_finds_5 ?_
  refine lv_istore (lv' := [(5, .int (g 12 k)), (0, .ref (ad 80)), (1, .int (nI k)), (2, .int lo), (3, .int hi), (4, .int (nI 1))]) hx hb dX6_finds_6 hl (by decide) rfl (fun ls hl => ?_)
  refine lv_aload_n hx hb dX6_finds_8 rfl (lv_at hl 1 rfl) ?_
  refine q_get hx hb hT hown hK hP kw_X6 0 rfl rfl 12 (by decide) kf_X6_43 rfl (v := .ref (ad 13)) rfl dX6_finds_9 ?_
  refine lv_iload_n hx hb dX6_finds_12 rfl (lv_at hl 2 rfl) ?_
  refine q_iald (f := g 13) hx hb hK hP 12 0 rfl rfl (k) rfl (by omega) (by omega) dX6_finds_13 ?_
  refine lv_istore (lv' := [(6, .int (g 13 k)), (5, .int (g 12 k)), (0, .ref (ad 80)), (1, .int (nI k)), (2, .int lo), (3, .int hi), (4, .int (nI 1))]) hx hb dX6_finds_14 hl (by decide) rfl (fun ls hl => ?_)
  refine lv_aload_n hx hb dX6_finds_16 rfl (lv_at hl 2 rfl) ?_
  refine q_get hx hb hT hown hK hP kw_X6 0 rfl rfl 11 (by decide) kf_X6_40 rfl (v := .ref (ad 12)) rfl dX6_finds_17 ?_
  refine lv_iload_n hx hb dX6_finds_20 rfl (lv_at hl 3 rfl) ?_
  refine lv_iload_n hx hb dX6_finds_21 rfl (lv_at hl 4 rfl) ?_
  refine lv_iload hx hb dX6_finds_22 (lv_at hl 1 rfl) ?_
  refine lv_icmp_le (tgt := 31) hx hb dX6_finds_24 (by decide) (fun c_24 => ?_) (fun c_24 => ?_)
  · refine lv_iload hx hb dX6_finds_31 (lv_at hl 1 rfl) ?_
    refine q_top (y := lo2) (by rw [hlo2]; first | exact mx_t c_24 | exact mx_f c_24) ?_
    exact zqJ33   _ _ _ hP hD hS (lv_sub hl [2, 3, 4, 5, 6, 1, 0] rfl)
  · refine lv_iload_n hx hb dX6_finds_27 rfl (lv_at hl 4 rfl) ?_
    refine lv_goto (tgt := 33) hx hb dX6_finds_28 (by decide) ?_
    refine q_top (y := lo2) (by rw [hlo2]; first | exact mx_t c_24 | exact mx_f c_24) ?_
    exact zqJ33   _ _ _ hP hD hS (lv_sub hl [2, 3, 4, 5, 6, 1, 0] rfl)
abbrev rm_X6_findsT0 : Room := { frames := 1, cells := 0, slots := 0, locals := 25 }
set_option maxRecDepth 100000 in
set_option maxHeartbeats 4000000 in
theorem c_X6_findsT0 (l : Launch) (D : va_G) (cA : ClassId) (ad : Nat → Nat) (g : Nat → Nat → Int32) (z : Nat → Nat) (k : Nat) (lo : Int32) (hi : Int32) (u0 : Nat) (dF : Nat → Int32) (dL : Nat → Int32) (lo2 : Int32) (hi2 : Int32) (hk : k < (z 0)) (hc : (z 0) ≤ 16) (hE : ∀ k, k < (z 1) → q_r ((g 14) k) 16 ∧ q_r ((g 15) k) 16) (ht : (z 1) ≤ 40) (hlo2 : lo2 = mx (g 12 k) lo) (hhi2 : hi2 = mn (g 13 k) hi) (hst : dtH u0 (g 14) (g 15) (g 16) (upd (g 12) k lo2) (upd (g 13) k hi2) (g 19) (g 20) (z 1) (z 0)) (hdt : (dtD u0 (g 14) (g 15) (g 16) (upd (g 12) k lo2) (upd (g 13) k hi2) (g 19) (g 20) (z 1) (z 0)).1 = dF ∧ (dtD u0 (g 14) (g 15) (g 16) (upd (g 12) k lo2) (upd (g 13) k hi2) (g 19) (g 20) (z 1) (z 0)).2.1 = dL ∧ (dtD u0 (g 14) (g 15) (g 16) (upd (g 12) k lo2) (upd (g 13) k hi2) (g 19) (g 20) (z 1) (z 0)).2.2.1 = false) : q_CI l yX6_finds [Cond.code yX6_finds cX6_finds 8 (some .int)] rm_X6_findsT0 D cA [.ref (ad 80), .int (nI k), .int lo, .int hi, .int (nI 1)] (mdW cA ad g z) (-1) (mdW cA ad (gs (gs g 19 dF) 20 dL) z) := by
  refine q_startI RX6 (by decide +kernel) rfl (Nat.le_of_ble_eq_true rfl) ?_
  intro p e s m below meth c A args H locs ls hx hb hr hml hown hT hlk hP hK hD hA hS hl
  have hl : lv_has ls 8 [(0, .ref (ad 80)), (1, .int (nI k)), (2, .int lo), (3, .int hi), (4, .int (nI 1))] := hl
  have zqJ51 : ∀ (H : Heap) (locs : List Loc) (ls : Array Slot), va_P D vwCl (mdW cA ad (gs g 12 (upd (g 12) k lo2)) z) H → va_D A (mdW cA ad (gs g 12 (upd (g 12) k lo2)) z) → va_S A s.heap H locs → lv_has ls 8 [(0, .ref (ad 80)), (1, .int (nI k)), (2, .int lo), (3, .int hi), (4, .int (nI 1)), (5, .int (g 12 k)), (6, .int (g 13 k))] → W p l e rm_X6_findsT0 s m args below meth c H locs 0 0 (q_GI D (-1) (mdW cA ad (gs (gs g 19 dF) 20 dL) z) A below args s) (F0 m 51 ls [.int hi2, .int (nI k), .ref (ad 13)]) := by
    intro   H locs ls hP hD hS hl
    refine q_iast (f := g 13) (ws1 := mdW cA ad (gs (gs g 12 (upd (g 12) k lo2)) 13 (upd (g 13) k hi2)) z) hx hb hK hP hD hS 12 0 rfl rfl (k) rfl (by omega) (by omega) rfl dX6_finds_51 (fun H locs hP hD hS => ?_)
    refine lv_aload_n hx hb dX6_finds_52 rfl (lv_at hl 0 rfl) ?_
    refine q_callIW (As := []) (r := q_b false) (w1 := mdW cA ad (gs (gs (gs (gs g 12 (upd (g 12) k lo2)) 13 (upd (g 13) k hi2)) 19 dF) 20 dL) z) hx hb hml hown hT hK hP hD hS hA (c_X6_datesv l D cA ad (gs (gs g 12 (upd (g 12) k lo2)) 13 (upd (g 13) k hi2)) z u0 dF dL false (show (z 0) ≤ 16 by omega) hE (show (z 1) ≤ 40 by omega) hst hdt) k_X6_dates kl_X6_114 (q0 := 0) rfl rfl rfl ((mdW_adr _ _ _ _).trans (mdW_adr _ _ _ _).symm) hl rfl rfl (Nat.le_of_ble_eq_true rfl) ⟨⟨rfl, rfl⟩, Nat.le_of_ble_eq_true rfl, Nat.le_of_ble_eq_true rfl⟩ ⟨Nat.zero_le _, Nat.zero_le _⟩ dX6_finds_53 (fun H locs hP hD hS => ?_)
    refine lv_if_eq (tgt := 66) hx hb dX6_finds_56 (by decide) (fun c_56 => ?_) (fun c_56 => ?_)
    · have c_56 := q_b0e c_56
      refine lv_iconst (v := (-1)) hx hb dX6_finds_66 (by decide +kernel) ?_
      refine lv_istore (lv' := [(7, .int (-1)), (0, .ref (ad 80)), (1, .int (nI k)), (2, .int lo), (3, .int hi), (4, .int (nI 1)), (5, .int (g 12 k)), (6, .int (g 13 k))]) hx hb dX6_finds_67 hl (by decide) rfl (fun ls hl => ?_)
      refine lv_iload hx hb dX6_finds_69 (lv_at hl 5 rfl) ?_
      refine lv_if_eq (tgt := 87) hx hb dX6_finds_71 (by decide) (fun c_71 => ?_) (fun c_71 => ?_)
      · have c_71 := nI_eq1 (a := 1) (b := 0) (by omega) (by omega) c_71
        exfalso; omega
      · have c_71 := nI_eq0 (a := 1) (b := 0) (by omega) (by omega) c_71
        refine lv_iload hx hb dX6_finds_74 (lv_at hl 0 rfl) ?_
        refine lv_iconst (v := (-1)) hx hb dX6_finds_76 (by decide +kernel) ?_
        refine lv_icmp_eq (tgt := 87) hx hb dX6_finds_77 (by decide) (fun c_77 => ?_) (fun c_77 => ?_)
        · refine lv_aload_n hx hb dX6_finds_87 rfl (lv_at hl 1 rfl) ?_
          refine q_get hx hb hT hown hK hP kw_X6 0 rfl rfl 11 (by decide) kf_X6_40 rfl (v := .ref (ad 12)) rfl dX6_finds_88 ?_
          refine lv_iload_n hx hb dX6_finds_91 rfl (lv_at hl 2 rfl) ?_
          refine lv_iload hx hb dX6_finds_92 (lv_at hl 6 rfl) ?_
          refine q_iast (f := (upd (g 12) k lo2)) (ws1 := mdW cA ad (gs (gs (gs (gs g 12 (upd (upd (g 12) k lo2) k (g 12 k))) 13 (upd (g 13) k hi2)) 19 dF) 20 dL) z) hx hb hK hP hD hS 11 0 rfl rfl (k) rfl (by omega) (by omega) rfl dX6_finds_94 (fun H locs hP hD hS => ?_)
          refine lv_aload_n hx hb dX6_finds_95 rfl (lv_at hl 1 rfl) ?_
          refine q_get hx hb hT hown hK hP kw_X6 0 rfl rfl 12 (by decide) kf_X6_43 rfl (v := .ref (ad 13)) rfl dX6_finds_96 ?_
          refine lv_iload_n hx hb dX6_finds_99 rfl (lv_at hl 2 rfl) ?_
          refine lv_iload hx hb dX6_finds_100 (lv_at hl 7 rfl) ?_
          refine q_iast (f := upd (g 13) k hi2) (ws1 := mdW cA ad (gs (gs (gs (gs g 12 (upd (upd (g 12) k lo2) k (g 12 k))) 13 (upd (upd (g 13) k hi2) k (g 13 k))) 19 dF) 20 dL) z) hx hb hK hP hD hS 12 0 rfl rfl (k) rfl (by omega) (by omega) rfl dX6_finds_102 (fun H locs hP hD hS => ?_)
          refine lv_iload hx hb dX6_finds_103 (lv_at hl 0 rfl) ?_
          exact q_iret hx hb hr hlk (by rfl) (va_cast' hP (by rw [upd_back, upd_back]; rfl)) hS dX6_finds_105
        · exact absurd rfl c_77
    · have c_56 := q_b0n c_56
      exact absurd c_56 (by decide)
  have zqJ33 : ∀ (H : Heap) (locs : List Loc) (ls : Array Slot), va_P D vwCl (mdW cA ad g z) H → va_D A (mdW cA ad g z) → va_S A s.heap H locs → lv_has ls 8 [(0, .ref (ad 80)), (1, .int (nI k)), (2, .int lo), (3, .int hi), (4, .int (nI 1)), (5, .int (g 12 k)), (6, .int (g 13 k))] → W p l e rm_X6_findsT0 s m args below meth c H locs 0 0 (q_GI D (-1) (mdW cA ad (gs (gs g 19 dF) 20 dL) z) A below args s) (F0 m 33 ls [.int lo2, .int (nI k), .ref (ad 12)]) := by
    intro   H locs ls hP hD hS hl
    refine q_iast (f := g 12) (ws1 := mdW cA ad (gs g 12 (upd (g 12) k lo2)) z) hx hb hK hP hD hS 11 0 rfl rfl (k) rfl (by omega) (by omega) rfl dX6_finds_33 (fun H locs hP hD hS => ?_)
    refine lv_aload_n hx hb dX6_finds_34 rfl (lv_at hl 0 rfl) ?_
    refine q_get hx hb hT hown hK hP kw_X6 0 rfl rfl 12 (by decide) kf_X6_43 rfl (v := .ref (ad 13)) rfl dX6_finds_35 ?_
    refine lv_iload_n hx hb dX6_finds_38 rfl (lv_at hl 1 rfl) ?_
    refine lv_iload_n hx hb dX6_finds_39 rfl (lv_at hl 3 rfl) ?_
    refine lv_iload hx hb dX6_finds_40 (lv_at hl 6 rfl) ?_
    refine lv_icmp_ge (tgt := 49) hx hb dX6_finds_42 (by decide) (fun c_42 => ?_) (fun c_42 => ?_)
    · refine lv_iload hx hb dX6_finds_49 (lv_at hl 6 rfl) ?_
      refine q_top (y := hi2) (by rw [hhi2]; first | exact mn_t c_42 | exact mn_f c_42) ?_
      exact zqJ51   _ _ _ hP hD hS (lv_sub hl [0, 1, 2, 3, 4, 5, 6] rfl)
    · refine lv_iload_n hx hb dX6_finds_45 rfl (lv_at hl 3 rfl) ?_
      refine lv_goto (tgt := 51) hx hb dX6_finds_46 (by decide) ?_
      refine q_top (y := hi2) (by rw [hhi2]; first | exact mn_t c_42 | exact mn_f c_42) ?_
      exact zqJ51   _ _ _ hP hD hS (lv_sub hl [0, 1, 2, 3, 4, 5, 6] rfl)
  refine lv_aload_n hx hb dX6_finds_0 rfl (lv_at hl 0 rfl) ?_
  refine q_get hx hb hT hown hK hP kw_X6 0 rfl rfl 11 (by decide) kf_X6_40 rfl (v := .ref (ad 12)) rfl dX6_finds_1 ?_
  refine lv_iload_n hx hb dX6_finds_4 rfl (lv_at hl 1 rfl) ?_
  refine q_iald (f := g 12) hx hb hK hP 11 0 rfl rfl (k) rfl (by omega) (by omega) dX6_finds_5 ?_
  refine lv_istore (lv' := [(5, .int (g 12 k)), (0, .ref (ad 80)), (1, .int (nI k)), (2, .int lo), (3, .int hi), (4, .int (nI 1))]) hx hb dX6_finds_6 hl (by decide) rfl (fun ls hl => ?_)
  refine lv_aload_n hx hb dX6_finds_8 rfl (lv_at hl 1 rfl) ?_
  refine q_get hx hb hT hown hK hP kw_X6 0 rfl rfl 12 (by decide) kf_X6_43 rfl (v := .ref (ad 13)) rfl dX6_finds_9 ?_
  refine lv_iload_n hx hb dX6_finds_12 rfl (lv_at hl 2 rfl) ?_
  refine q_iald (f := g 13) hx hb hK hP 12 0 rfl rfl (k) rfl (by omega) (by omega) dX6_finds_13 ?_
  refine lv_istore (lv' := [(6, .int (g 13 k)), (5, .int (g 12 k)), (0, .ref (ad 80)), (1, .int (nI k)), (2, .int lo), (3, .int hi), (4, .int (nI 1))]) hx hb dX6_finds_14 hl (by decide) rfl (fun ls hl => ?_)
  refine lv_aload_n hx hb dX6_finds_16 rfl (lv_at hl 2 rfl) ?_
  refine q_get hx hb hT hown hK hP kw_X6 0 rfl rfl 11 (by decide) kf_X6_40 rfl (v := .ref (ad 12)) rfl dX6_finds_17 ?_
  refine lv_iload_n hx hb dX6_finds_20 rfl (lv_at hl 3 rfl) ?_
  refine lv_iload_n hx hb dX6_finds_21 rfl (lv_at hl 4 rfl) ?_
  refine lv_iload hx hb dX6_finds_22 (lv_at hl 1 rfl) ?_
  refine lv_icmp_le (tgt := 31) hx hb dX6_finds_24 (by decide) (fun c_24 => ?_) (fun c_24 => ?_)
  · refine lv_iload hx hb dX6_finds_31 (lv_at hl 1 rfl) ?_
    refine q_top (y := lo2) (by rw [hlo2]; first | exact mx_t c_24 | exact mx_f c_24) ?_
    exact zqJ33   _ _ _ hP hD hS (lv_sub hl [2, 3, 4, 5, 6, 1, 0] rfl)
  · refine lv_iload_n hx hb dX6_finds_27 rfl (lv_at hl 4 rfl) ?_
    refine lv_goto (tgt := 33) hx hb dX6_finds_28 (by decide) ?_
    refine q_top (y := lo2) (by rw [hlo2]; first | exact mx_t c_24 | exact mx_f c_24) ?_
    exact zqJ33   _ _ _ hP hD hS (lv_sub hl [2, 3, 4, 5, 6, 1, 0] rfl)
abbrev rm_X6_findsF1 : Room := { frames := 1, cells := 0, slots := 0, locals := 25 }
set_option maxRecDepth 100000 in
set_option maxHeartbeats 4000000 in
theorem c_X6_findsF1 (l : Launch) (D : va_G) (cA : ClassId) (ad : Nat → Nat) (g : Nat → Nat → Int32) (z : Nat → Nat) (k : Nat) (lo : Int32) (hi : Int32) (u0 : Nat) (dF : Nat → Int32) (dL : Nat → Int32) (lo2 : Int32) (hi2 : Int32) (hk : k < (z 0)) (hc : (z 0) ≤ 16) (hE : ∀ k, k < (z 1) → q_r ((g 14) k) 16 ∧ q_r ((g 15) k) 16) (ht : (z 1) ≤ 40) (hlo2 : lo2 = mx (g 12 k) lo) (hhi2 : hi2 = mn (g 13 k) hi) (hst : dtH u0 (g 14) (g 15) (g 16) (upd (g 12) k lo2) (upd (g 13) k hi2) (g 19) (g 20) (z 1) (z 0)) (hdt : (dtD u0 (g 14) (g 15) (g 16) (upd (g 12) k lo2) (upd (g 13) k hi2) (g 19) (g 20) (z 1) (z 0)).1 = dF ∧ (dtD u0 (g 14) (g 15) (g 16) (upd (g 12) k lo2) (upd (g 13) k hi2) (g 19) (g 20) (z 1) (z 0)).2.1 = dL ∧ (dtD u0 (g 14) (g 15) (g 16) (upd (g 12) k lo2) (upd (g 13) k hi2) (g 19) (g 20) (z 1) (z 0)).2.2.1 = true) : q_CI l yX6_finds [Cond.code yX6_finds cX6_finds 8 (some .int)] rm_X6_findsF1 D cA [.ref (ad 80), .int (nI k), .int lo, .int hi, .int (nI 0)] (mdW cA ad g z) (nI (mvd dF dL (g 17) (g 18) (z 0))) (mdW cA ad (gs (gs g 19 dF) 20 dL) z) := by
  refine q_startI RX6 (by decide +kernel) rfl (Nat.le_of_ble_eq_true rfl) ?_
  intro p e s m below meth c A args H locs ls hx hb hr hml hown hT hlk hP hK hD hA hS hl
  have hl : lv_has ls 8 [(0, .ref (ad 80)), (1, .int (nI k)), (2, .int lo), (3, .int hi), (4, .int (nI 0))] := hl
  have zqJ51 : ∀ (H : Heap) (locs : List Loc) (ls : Array Slot), va_P D vwCl (mdW cA ad (gs g 12 (upd (g 12) k lo2)) z) H → va_D A (mdW cA ad (gs g 12 (upd (g 12) k lo2)) z) → va_S A s.heap H locs → lv_has ls 8 [(0, .ref (ad 80)), (1, .int (nI k)), (2, .int lo), (3, .int hi), (4, .int (nI 0)), (5, .int (g 12 k)), (6, .int (g 13 k))] → W p l e rm_X6_findsF1 s m args below meth c H locs 0 0 (q_GI D (nI (mvd dF dL (g 17) (g 18) (z 0))) (mdW cA ad (gs (gs g 19 dF) 20 dL) z) A below args s) (F0 m 51 ls [.int hi2, .int (nI k), .ref (ad 13)]) := by
    intro   H locs ls hP hD hS hl
    refine q_iast (f := g 13) (ws1 := mdW cA ad (gs (gs g 12 (upd (g 12) k lo2)) 13 (upd (g 13) k hi2)) z) hx hb hK hP hD hS 12 0 rfl rfl (k) rfl (by omega) (by omega) rfl dX6_finds_51 (fun H locs hP hD hS => ?_)
    refine lv_aload_n hx hb dX6_finds_52 rfl (lv_at hl 0 rfl) ?_
    refine q_callIW (As := []) (r := q_b true) (w1 := mdW cA ad (gs (gs (gs (gs g 12 (upd (g 12) k lo2)) 13 (upd (g 13) k hi2)) 19 dF) 20 dL) z) hx hb hml hown hT hK hP hD hS hA (c_X6_datesv l D cA ad (gs (gs g 12 (upd (g 12) k lo2)) 13 (upd (g 13) k hi2)) z u0 dF dL true (show (z 0) ≤ 16 by omega) hE (show (z 1) ≤ 40 by omega) hst hdt) k_X6_dates kl_X6_114 (q0 := 0) rfl rfl rfl ((mdW_adr _ _ _ _).trans (mdW_adr _ _ _ _).symm) hl rfl rfl (Nat.le_of_ble_eq_true rfl) ⟨⟨rfl, rfl⟩, Nat.le_of_ble_eq_true rfl, Nat.le_of_ble_eq_true rfl⟩ ⟨Nat.zero_le _, Nat.zero_le _⟩ dX6_finds_53 (fun H locs hP hD hS => ?_)
    refine lv_if_eq (tgt := 66) hx hb dX6_finds_56 (by decide) (fun c_56 => ?_) (fun c_56 => ?_)
    · have c_56 := q_b0e c_56
      exact absurd c_56 (by decide)
    · have c_56 := q_b0n c_56
      refine lv_aload_n hx hb dX6_finds_59 rfl (lv_at hl 0 rfl) ?_
      refine q_callIW (As := []) (r := nI (mvd dF dL (g 17) (g 18) (z 0))) (w1 := mdW cA ad (gs (gs (gs (gs g 12 (upd (g 12) k lo2)) 13 (upd (g 13) k hi2)) 19 dF) 20 dL) z) hx hb hml hown hT hK hP hD hS hA (c_X6_moves l D cA ad (gs (gs (gs (gs g 12 (upd (g 12) k lo2)) 13 (upd (g 13) k hi2)) 19 dF) 20 dL) z (show (z 0) ≤ 16 by omega)) k_X6_moves kl_X6_118 (q0 := 0) rfl rfl rfl ((mdW_adr _ _ _ _).trans (mdW_adr _ _ _ _).symm) hl rfl rfl (Nat.le_of_ble_eq_true rfl) ⟨⟨rfl, rfl⟩, Nat.le_of_ble_eq_true rfl, Nat.le_of_ble_eq_true rfl⟩ ⟨Nat.zero_le _, Nat.zero_le _⟩ dX6_finds_60 (fun H locs hP hD hS => ?_)
      refine lv_goto (tgt := 67) hx hb dX6_finds_63 (by decide) ?_
      refine lv_istore (lv' := [(7, .int (nI (mvd dF dL (g 17) (g 18) (z 0)))), (0, .ref (ad 80)), (1, .int (nI k)), (2, .int lo), (3, .int hi), (4, .int (nI 0)), (5, .int (g 12 k)), (6, .int (g 13 k))]) hx hb dX6_finds_67 hl (by decide) rfl (fun ls hl => ?_)
      refine lv_iload hx hb dX6_finds_69 (lv_at hl 5 rfl) ?_
      refine lv_if_eq (tgt := 87) hx hb dX6_finds_71 (by decide) (fun c_71 => ?_) (fun c_71 => ?_)
      · have c_71 := nI_eq1 (a := 0) (b := 0) (by omega) (by omega) c_71
        refine lv_aload_n hx hb dX6_finds_87 rfl (lv_at hl 1 rfl) ?_
        refine q_get hx hb hT hown hK hP kw_X6 0 rfl rfl 11 (by decide) kf_X6_40 rfl (v := .ref (ad 12)) rfl dX6_finds_88 ?_
        refine lv_iload_n hx hb dX6_finds_91 rfl (lv_at hl 2 rfl) ?_
        refine lv_iload hx hb dX6_finds_92 (lv_at hl 6 rfl) ?_
        refine q_iast (f := (upd (g 12) k lo2)) (ws1 := mdW cA ad (gs (gs (gs (gs g 12 (upd (upd (g 12) k lo2) k (g 12 k))) 13 (upd (g 13) k hi2)) 19 dF) 20 dL) z) hx hb hK hP hD hS 11 0 rfl rfl (k) rfl (by omega) (by omega) rfl dX6_finds_94 (fun H locs hP hD hS => ?_)
        refine lv_aload_n hx hb dX6_finds_95 rfl (lv_at hl 1 rfl) ?_
        refine q_get hx hb hT hown hK hP kw_X6 0 rfl rfl 12 (by decide) kf_X6_43 rfl (v := .ref (ad 13)) rfl dX6_finds_96 ?_
        refine lv_iload_n hx hb dX6_finds_99 rfl (lv_at hl 2 rfl) ?_
        refine lv_iload hx hb dX6_finds_100 (lv_at hl 7 rfl) ?_
        refine q_iast (f := upd (g 13) k hi2) (ws1 := mdW cA ad (gs (gs (gs (gs g 12 (upd (upd (g 12) k lo2) k (g 12 k))) 13 (upd (upd (g 13) k hi2) k (g 13 k))) 19 dF) 20 dL) z) hx hb hK hP hD hS 12 0 rfl rfl (k) rfl (by omega) (by omega) rfl dX6_finds_102 (fun H locs hP hD hS => ?_)
        refine lv_iload hx hb dX6_finds_103 (lv_at hl 0 rfl) ?_
        exact q_iret hx hb hr hlk (by rfl) (va_cast' hP (by rw [upd_back, upd_back]; rfl)) hS dX6_finds_105
      · have c_71 := nI_eq0 (a := 0) (b := 0) (by omega) (by omega) c_71
        exfalso; omega
  have zqJ33 : ∀ (H : Heap) (locs : List Loc) (ls : Array Slot), va_P D vwCl (mdW cA ad g z) H → va_D A (mdW cA ad g z) → va_S A s.heap H locs → lv_has ls 8 [(0, .ref (ad 80)), (1, .int (nI k)), (2, .int lo), (3, .int hi), (4, .int (nI 0)), (5, .int (g 12 k)), (6, .int (g 13 k))] → W p l e rm_X6_findsF1 s m args below meth c H locs 0 0 (q_GI D (nI (mvd dF dL (g 17) (g 18) (z 0))) (mdW cA ad (gs (gs g 19 dF) 20 dL) z) A below args s) (F0 m 33 ls [.int lo2, .int (nI k), .ref (ad 12)]) := by
    intro   H locs ls hP hD hS hl
    refine q_iast (f := g 12) (ws1 := mdW cA ad (gs g 12 (upd (g 12) k lo2)) z) hx hb hK hP hD hS 11 0 rfl rfl (k) rfl (by omega) (by omega) rfl dX6_finds_33 (fun H locs hP hD hS => ?_)
    refine lv_aload_n hx hb dX6_finds_34 rfl (lv_at hl 0 rfl) ?_
    refine q_get hx hb hT hown hK hP kw_X6 0 rfl rfl 12 (by decide) kf_X6_43 rfl (v := .ref (ad 13)) rfl dX6_finds_35 ?_
    refine lv_iload_n hx hb dX6_finds_38 rfl (lv_at hl 1 rfl) ?_
    refine lv_iload_n hx hb dX6_finds_39 rfl (lv_at hl 3 rfl) ?_
    refine lv_iload hx hb dX6_finds_40 (lv_at hl 6 rfl) ?_
    refine lv_icmp_ge (tgt := 49) hx hb dX6_finds_42 (by decide) (fun c_42 => ?_) (fun c_42 => ?_)
    · refine lv_iload hx hb dX6_finds_49 (lv_at hl 6 rfl) ?_
      refine q_top (y := hi2) (by rw [hhi2]; first | exact mn_t c_42 | exact mn_f c_42) ?_
      exact zqJ51   _ _ _ hP hD hS (lv_sub hl [0, 1, 2, 3, 4, 5, 6] rfl)
    · refine lv_iload_n hx hb dX6_finds_45 rfl (lv_at hl 3 rfl) ?_
      refine lv_goto (tgt := 51) hx hb dX6_finds_46 (by decide) ?_
      refine q_top (y := hi2) (by rw [hhi2]; first | exact mn_t c_42 | exact mn_f c_42) ?_
      exact zqJ51   _ _ _ hP hD hS (lv_sub hl [0, 1, 2, 3, 4, 5, 6] rfl)
  refine lv_aload_n hx hb dX6_finds_0 rfl (lv_at hl 0 rfl) ?_
  refine q_get hx hb hT hown hK hP kw_X6 0 rfl rfl 11 (by decide) kf_X6_40 rfl (v := .ref (ad 12)) rfl dX6_finds_1 ?_
  refine lv_iload_n hx hb dX6_finds_4 rfl (lv_at hl 1 rfl) ?_
  refine q_iald (f := g 12) hx hb hK hP 11 0 rfl rfl (k) rfl (by omega) (by omega) dX6_finds_5 ?_
  refine lv_istore (lv' := [(5, .int (g 12 k)), (0, .ref (ad 80)), (1, .int (nI k)), (2, .int lo), (3, .int hi), (4, .int (nI 0))]) hx hb dX6_finds_6 hl (by decide) rfl (fun ls hl => ?_)
  refine lv_aload_n hx hb dX6_finds_8 rfl (lv_at hl 1 rfl) ?_
  refine q_get hx hb hT hown hK hP kw_X6 0 rfl rfl 12 (by decide) kf_X6_43 rfl (v := .ref (ad 13)) rfl dX6_finds_9 ?_
  refine lv_iload_n hx hb dX6_finds_12 rfl (lv_at hl 2 rfl) ?_
  refine q_iald (f := g 13) hx hb hK hP 12 0 rfl rfl (k) rfl (by omega) (by omega) dX6_finds_13 ?_
  refine lv_istore (lv' := [(6, .int (g 13 k)), (5, .int (g 12 k)), (0, .ref (ad 80)), (1, .int (nI k)), (2, .int lo), (3, .int hi), (4, .int (nI 0))]) hx hb dX6_finds_14 hl (by decide) rfl (fun ls hl => ?_)
  refine lv_aload_n hx hb dX6_finds_16 rfl (lv_at hl 2 rfl) ?_
  refine q_get hx hb hT hown hK hP kw_X6 0 rfl rfl 11 (by decide) kf_X6_40 rfl (v := .ref (ad 12)) rfl dX6_finds_17 ?_
  refine lv_iload_n hx hb dX6_finds_20 rfl (lv_at hl 3 rfl) ?_
  refine lv_iload_n hx hb dX6_finds_21 rfl (lv_at hl 4 rfl) ?_
  refine lv_iload hx hb dX6_finds_22 (lv_at hl 1 rfl) ?_
  refine lv_icmp_le (tgt := 31) hx hb dX6_finds_24 (by decide) (fun c_24 => ?_) (fun c_24 => ?_)
  · refine lv_iload hx hb dX6_finds_31 (lv_at hl 1 rfl) ?_
    refine q_top (y := lo2) (by rw [hlo2]; first | exact mx_t c_24 | exact mx_f c_24) ?_
    exact zqJ33   _ _ _ hP hD hS (lv_sub hl [2, 3, 4, 5, 6, 1, 0] rfl)
  · refine lv_iload_n hx hb dX6_finds_27 rfl (lv_at hl 4 rfl) ?_
    refine lv_goto (tgt := 33) hx hb dX6_finds_28 (by decide) ?_
    refine q_top (y := lo2) (by rw [hlo2]; first | exact mx_t c_24 | exact mx_f c_24) ?_
    exact zqJ33   _ _ _ hP hD hS (lv_sub hl [2, 3, 4, 5, 6, 1, 0] rfl)
abbrev rm_X6_findsF0 : Room := { frames := 1, cells := 0, slots := 0, locals := 25 }
set_option maxRecDepth 100000 in
set_option maxHeartbeats 4000000 in
theorem c_X6_findsF0 (l : Launch) (D : va_G) (cA : ClassId) (ad : Nat → Nat) (g : Nat → Nat → Int32) (z : Nat → Nat) (k : Nat) (lo : Int32) (hi : Int32) (u0 : Nat) (dF : Nat → Int32) (dL : Nat → Int32) (lo2 : Int32) (hi2 : Int32) (hk : k < (z 0)) (hc : (z 0) ≤ 16) (hE : ∀ k, k < (z 1) → q_r ((g 14) k) 16 ∧ q_r ((g 15) k) 16) (ht : (z 1) ≤ 40) (hlo2 : lo2 = mx (g 12 k) lo) (hhi2 : hi2 = mn (g 13 k) hi) (hst : dtH u0 (g 14) (g 15) (g 16) (upd (g 12) k lo2) (upd (g 13) k hi2) (g 19) (g 20) (z 1) (z 0)) (hdt : (dtD u0 (g 14) (g 15) (g 16) (upd (g 12) k lo2) (upd (g 13) k hi2) (g 19) (g 20) (z 1) (z 0)).1 = dF ∧ (dtD u0 (g 14) (g 15) (g 16) (upd (g 12) k lo2) (upd (g 13) k hi2) (g 19) (g 20) (z 1) (z 0)).2.1 = dL ∧ (dtD u0 (g 14) (g 15) (g 16) (upd (g 12) k lo2) (upd (g 13) k hi2) (g 19) (g 20) (z 1) (z 0)).2.2.1 = false) : q_CI l yX6_finds [Cond.code yX6_finds cX6_finds 8 (some .int)] rm_X6_findsF0 D cA [.ref (ad 80), .int (nI k), .int lo, .int hi, .int (nI 0)] (mdW cA ad g z) (-1) (mdW cA ad (gs (gs g 19 dF) 20 dL) z) := by
  refine q_startI RX6 (by decide +kernel) rfl (Nat.le_of_ble_eq_true rfl) ?_
  intro p e s m below meth c A args H locs ls hx hb hr hml hown hT hlk hP hK hD hA hS hl
  have hl : lv_has ls 8 [(0, .ref (ad 80)), (1, .int (nI k)), (2, .int lo), (3, .int hi), (4, .int (nI 0))] := hl
  have zqJ51 : ∀ (H : Heap) (locs : List Loc) (ls : Array Slot), va_P D vwCl (mdW cA ad (gs g 12 (upd (g 12) k lo2)) z) H → va_D A (mdW cA ad (gs g 12 (upd (g 12) k lo2)) z) → va_S A s.heap H locs → lv_has ls 8 [(0, .ref (ad 80)), (1, .int (nI k)), (2, .int lo), (3, .int hi), (4, .int (nI 0)), (5, .int (g 12 k)), (6, .int (g 13 k))] → W p l e rm_X6_findsF0 s m args below meth c H locs 0 0 (q_GI D (-1) (mdW cA ad (gs (gs g 19 dF) 20 dL) z) A below args s) (F0 m 51 ls [.int hi2, .int (nI k), .ref (ad 13)]) := by
    intro   H locs ls hP hD hS hl
    refine q_iast (f := g 13) (ws1 := mdW cA ad (gs (gs g 12 (upd (g 12) k lo2)) 13 (upd (g 13) k hi2)) z) hx hb hK hP hD hS 12 0 rfl rfl (k) rfl (by omega) (by omega) rfl dX6_finds_51 (fun H locs hP hD hS => ?_)
    refine lv_aload_n hx hb dX6_finds_52 rfl (lv_at hl 0 rfl) ?_
    refine q_callIW (As := []) (r := q_b false) (w1 := mdW cA ad (gs (gs (gs (gs g 12 (upd (g 12) k lo2)) 13 (upd (g 13) k hi2)) 19 dF) 20 dL) z) hx hb hml hown hT hK hP hD hS hA (c_X6_datesv l D cA ad (gs (gs g 12 (upd (g 12) k lo2)) 13 (upd (g 13) k hi2)) z u0 dF dL false (show (z 0) ≤ 16 by omega) hE (show (z 1) ≤ 40 by omega) hst hdt) k_X6_dates kl_X6_114 (q0 := 0) rfl rfl rfl ((mdW_adr _ _ _ _).trans (mdW_adr _ _ _ _).symm) hl rfl rfl (Nat.le_of_ble_eq_true rfl) ⟨⟨rfl, rfl⟩, Nat.le_of_ble_eq_true rfl, Nat.le_of_ble_eq_true rfl⟩ ⟨Nat.zero_le _, Nat.zero_le _⟩ dX6_finds_53 (fun H locs hP hD hS => ?_)
    refine lv_if_eq (tgt := 66) hx hb dX6_finds_56 (by decide) (fun c_56 => ?_) (fun c_56 => ?_)
    · have c_56 := q_b0e c_56
      refine lv_iconst (v := (-1)) hx hb dX6_finds_66 (by decide +kernel) ?_
      refine lv_istore (lv' := [(7, .int (-1)), (0, .ref (ad 80)), (1, .int (nI k)), (2, .int lo), (3, .int hi), (4, .int (nI 0)), (5, .int (g 12 k)), (6, .int (g 13 k))]) hx hb dX6_finds_67 hl (by decide) rfl (fun ls hl => ?_)
      refine lv_iload hx hb dX6_finds_69 (lv_at hl 5 rfl) ?_
      refine lv_if_eq (tgt := 87) hx hb dX6_finds_71 (by decide) (fun c_71 => ?_) (fun c_71 => ?_)
      · have c_71 := nI_eq1 (a := 0) (b := 0) (by omega) (by omega) c_71
        refine lv_aload_n hx hb dX6_finds_87 rfl (lv_at hl 1 rfl) ?_
        refine q_get hx hb hT hown hK hP kw_X6 0 rfl rfl 11 (by decide) kf_X6_40 rfl (v := .ref (ad 12)) rfl dX6_finds_88 ?_
        refine lv_iload_n hx hb dX6_finds_91 rfl (lv_at hl 2 rfl) ?_
        refine lv_iload hx hb dX6_finds_92 (lv_at hl 6 rfl) ?_
        refine q_iast (f := (upd (g 12) k lo2)) (ws1 := mdW cA ad (gs (gs (gs (gs g 12 (upd (upd (g 12) k lo2) k (g 12 k))) 13 (upd (g 13) k hi2)) 19 dF) 20 dL) z) hx hb hK hP hD hS 11 0 rfl rfl (k) rfl (by omega) (by omega) rfl dX6_finds_94 (fun H locs hP hD hS => ?_)
        refine lv_aload_n hx hb dX6_finds_95 rfl (lv_at hl 1 rfl) ?_
        refine q_get hx hb hT hown hK hP kw_X6 0 rfl rfl 12 (by decide) kf_X6_43 rfl (v := .ref (ad 13)) rfl dX6_finds_96 ?_
        refine lv_iload_n hx hb dX6_finds_99 rfl (lv_at hl 2 rfl) ?_
        refine lv_iload hx hb dX6_finds_100 (lv_at hl 7 rfl) ?_
        refine q_iast (f := upd (g 13) k hi2) (ws1 := mdW cA ad (gs (gs (gs (gs g 12 (upd (upd (g 12) k lo2) k (g 12 k))) 13 (upd (upd (g 13) k hi2) k (g 13 k))) 19 dF) 20 dL) z) hx hb hK hP hD hS 12 0 rfl rfl (k) rfl (by omega) (by omega) rfl dX6_finds_102 (fun H locs hP hD hS => ?_)
        refine lv_iload hx hb dX6_finds_103 (lv_at hl 0 rfl) ?_
        exact q_iret hx hb hr hlk (by rfl) (va_cast' hP (by rw [upd_back, upd_back]; rfl)) hS dX6_finds_105
      · have c_71 := nI_eq0 (a := 0) (b := 0) (by omega) (by omega) c_71
        exfalso; omega
    · have c_56 := q_b0n c_56
      exact absurd c_56 (by decide)
  have zqJ33 : ∀ (H : Heap) (locs : List Loc) (ls : Array Slot), va_P D vwCl (mdW cA ad g z) H → va_D A (mdW cA ad g z) → va_S A s.heap H locs → lv_has ls 8 [(0, .ref (ad 80)), (1, .int (nI k)), (2, .int lo), (3, .int hi), (4, .int (nI 0)), (5, .int (g 12 k)), (6, .int (g 13 k))] → W p l e rm_X6_findsF0 s m args below meth c H locs 0 0 (q_GI D (-1) (mdW cA ad (gs (gs g 19 dF) 20 dL) z) A below args s) (F0 m 33 ls [.int lo2, .int (nI k), .ref (ad 12)]) := by
    intro   H locs ls hP hD hS hl
    refine q_iast (f := g 12) (ws1 := mdW cA ad (gs g 12 (upd (g 12) k lo2)) z) hx hb hK hP hD hS 11 0 rfl rfl (k) rfl (by omega) (by omega) rfl dX6_finds_33 (fun H locs hP hD hS => ?_)
    refine lv_aload_n hx hb dX6_finds_34 rfl (lv_at hl 0 rfl) ?_
    refine q_get hx hb hT hown hK hP kw_X6 0 rfl rfl 12 (by decide) kf_X6_43 rfl (v := .ref (ad 13)) rfl dX6_finds_35 ?_
    refine lv_iload_n hx hb dX6_finds_38 rfl (lv_at hl 1 rfl) ?_
    refine lv_iload_n hx hb dX6_finds_39 rfl (lv_at hl 3 rfl) ?_
    refine lv_iload hx hb dX6_finds_40 (lv_at hl 6 rfl) ?_
    refine lv_icmp_ge (tgt := 49) hx hb dX6_finds_42 (by decide) (fun c_42 => ?_) (fun c_42 => ?_)
    · refine lv_iload hx hb dX6_finds_49 (lv_at hl 6 rfl) ?_
      refine q_top (y := hi2) (by rw [hhi2]; first | exact mn_t c_42 | exact mn_f c_42) ?_
      exact zqJ51   _ _ _ hP hD hS (lv_sub hl [0, 1, 2, 3, 4, 5, 6] rfl)
    · refine lv_iload_n hx hb dX6_finds_45 rfl (lv_at hl 3 rfl) ?_
      refine lv_goto (tgt := 51) hx hb dX6_finds_46 (by decide) ?_
      refine q_top (y := hi2) (by rw [hhi2]; first | exact mn_t c_42 | exact mn_f c_42) ?_
      exact zqJ51   _ _ _ hP hD hS (lv_sub hl [0, 1, 2, 3, 4, 5, 6] rfl)
  refine lv_aload_n hx hb dX6_finds_0 rfl (lv_at hl 0 rfl) ?_
  refine q_get hx hb hT hown hK hP kw_X6 0 rfl rfl 11 (by decide) kf_X6_40 rfl (v := .ref (ad 12)) rfl dX6_finds_1 ?_
  refine lv_iload_n hx hb dX6_finds_4 rfl (lv_at hl 1 rfl) ?_
  refine q_iald (f := g 12) hx hb hK hP 11 0 rfl rfl (k) rfl (by omega) (by omega) dX6_finds_5 ?_
  refine lv_istore (lv' := [(5, .int (g 12 k)), (0, .ref (ad 80)), (1, .int (nI k)), (2, .int lo), (3, .int hi), (4, .int (nI 0))]) hx hb dX6_finds_6 hl (by decide) rfl (fun ls hl => ?_)
  refine lv_aload_n hx hb dX6_finds_8 rfl (lv_at hl 1 rfl) ?_
  refine q_get hx hb hT hown hK hP kw_X6 0 rfl rfl 12 (by decide) kf_X6_43 rfl (v := .ref (ad 13)) rfl dX6_finds_9 ?_
  refine lv_iload_n hx hb dX6_finds_12 rfl (lv_at hl 2 rfl) ?_
  refine q_iald (f := g 13) hx hb hK hP 12 0 rfl rfl (k) rfl (by omega) (by omega) dX6_finds_13 ?_
  refine lv_istore (lv' := [(6, .int (g 13 k)), (5, .int (g 12 k)), (0, .ref (ad 80)), (1, .int (nI k)), (2, .int lo), (3, .int hi), (4, .int (nI 0))]) hx hb dX6_finds_14 hl (by decide) rfl (fun ls hl => ?_)
  refine lv_aload_n hx hb dX6_finds_16 rfl (lv_at hl 2 rfl) ?_
  refine q_get hx hb hT hown hK hP kw_X6 0 rfl rfl 11 (by decide) kf_X6_40 rfl (v := .ref (ad 12)) rfl dX6_finds_17 ?_
  refine lv_iload_n hx hb dX6_finds_20 rfl (lv_at hl 3 rfl) ?_
  refine lv_iload_n hx hb dX6_finds_21 rfl (lv_at hl 4 rfl) ?_
  refine lv_iload hx hb dX6_finds_22 (lv_at hl 1 rfl) ?_
  refine lv_icmp_le (tgt := 31) hx hb dX6_finds_24 (by decide) (fun c_24 => ?_) (fun c_24 => ?_)
  · refine lv_iload hx hb dX6_finds_31 (lv_at hl 1 rfl) ?_
    refine q_top (y := lo2) (by rw [hlo2]; first | exact mx_t c_24 | exact mx_f c_24) ?_
    exact zqJ33   _ _ _ hP hD hS (lv_sub hl [2, 3, 4, 5, 6, 1, 0] rfl)
  · refine lv_iload_n hx hb dX6_finds_27 rfl (lv_at hl 4 rfl) ?_
    refine lv_goto (tgt := 33) hx hb dX6_finds_28 (by decide) ?_
    refine q_top (y := lo2) (by rw [hlo2]; first | exact mx_t c_24 | exact mx_f c_24) ?_
    exact zqJ33   _ _ _ hP hD hS (lv_sub hl [2, 3, 4, 5, 6, 1, 0] rfl)
abbrev rm_X6_find : Room := { frames := 2, cells := 0, slots := 0, locals := 52 }
set_option maxRecDepth 100000 in
set_option maxHeartbeats 4000000 in
theorem c_X6_find (l : Launch) (D : va_G) (cA : ClassId) (ad : Nat → Nat) (g : Nat → Nat → Int32) (z : Nat → Nat) (k : Nat) (lo : Int32) (hi : Int32) (u0 : Nat) (dF : Nat → Int32) (dL : Nat → Int32) (lo2 : Int32) (hi2 : Int32) (hk : k < (z 0)) (hc : (z 0) ≤ 16) (hlo : ¬ lo < nI 0 ∧ lo ≤ nI 999) (hhi : ¬ hi < lo ∧ hi ≤ nI 999) (hE : ∀ k, k < (z 1) → q_r ((g 14) k) 16 ∧ q_r ((g 15) k) 16) (ht : (z 1) ≤ 40) (hlo2 : lo2 = mx (g 12 k) lo) (hhi2 : hi2 = mn (g 13 k) hi) (hst : dtH u0 (g 14) (g 15) (g 16) (upd (g 12) k lo2) (upd (g 13) k hi2) (g 19) (g 20) (z 1) (z 0)) (hdt : (dtD u0 (g 14) (g 15) (g 16) (upd (g 12) k lo2) (upd (g 13) k hi2) (g 19) (g 20) (z 1) (z 0)).1 = dF ∧ (dtD u0 (g 14) (g 15) (g 16) (upd (g 12) k lo2) (upd (g 13) k hi2) (g 19) (g 20) (z 1) (z 0)).2.1 = dL ∧ (dtD u0 (g 14) (g 15) (g 16) (upd (g 12) k lo2) (upd (g 13) k hi2) (g 19) (g 20) (z 1) (z 0)).2.2.1 = true) : q_CI l yX6_find [Cond.code yX6_find cX6_find 5 (some .int)] rm_X6_find D cA [.ref (ad 80), .int (nI k), .int lo, .int hi] (mdW cA ad g z) (nI (mvd dF dL (g 17) (g 18) (z 0))) (mdW cA ad (gs (gs (gs (gs (gs (gs g 12 (upd (g 12) k lo2)) 13 (upd (g 13) k hi2)) 17 (copyTo (g 17) dF (z 0))) 18 (copyTo (g 18) dL (z 0))) 19 dF) 20 dL) (zs z 4 0)) := by
  refine q_startI RX6 (by decide +kernel) rfl (Nat.le_of_ble_eq_true rfl) ?_
  intro p e s m below meth c A args H locs ls hx hb hr hml hown hT hlk hP hK hD hA hS hl
  have hl : lv_has ls 5 [(0, .ref (ad 80)), (1, .int (nI k)), (2, .int lo), (3, .int hi)] := hl
  refine lv_aload_n hx hb dX6_find_0 rfl (lv_at hl 0 rfl) ?_
  refine lv_aload_n hx hb dX6_find_1 rfl (lv_at hl 0 rfl) ?_
  refine lv_iload_n hx hb dX6_find_2 rfl (lv_at hl 1 rfl) ?_
  refine q_callIW (As := [.int (nI k)]) (r := q_b (mB (nI k) (z 0))) (w1 := mdW cA ad g z) hx hb hml hown hT hK hP hD hS hA (c_X6_isMention l D cA ad g z (nI k) (show (z 0) ≤ 16 by omega)) k_X6_isMention kl_X6_111 (q0 := 0) rfl rfl rfl ((mdW_adr _ _ _ _).trans (mdW_adr _ _ _ _).symm) hl rfl rfl (Nat.le_of_ble_eq_true rfl) ⟨⟨rfl, rfl⟩, Nat.le_of_ble_eq_true rfl, Nat.le_of_ble_eq_true rfl⟩ ⟨Nat.zero_le _, Nat.zero_le _⟩ dX6_find_3 (fun H locs hP hD hS => ?_)
  refine lv_if_ne (tgt := 13) hx hb dX6_find_6 (by decide) (fun c_6 => ?_) (fun c_6 => ?_)
  · have c_6 := q_b0n c_6
    refine lv_aload_n hx hb dX6_find_13 rfl (lv_at hl 0 rfl) ?_
    refine lv_iload_n hx hb dX6_find_14 rfl (lv_at hl 2 rfl) ?_
    refine lv_iload_n hx hb dX6_find_15 rfl (lv_at hl 3 rfl) ?_
    refine q_callIW (As := [.int lo, .int hi]) (r := q_b (iN lo (nI 0) (nI 999) && iN hi lo (nI 999))) (w1 := mdW cA ad g z) hx hb hml hown hT hK hP hD hS hA (c_X6_areYears l D cA ad g z lo hi) k_X6_areYears kl_X6_125 (q0 := 0) rfl rfl rfl ((mdW_adr _ _ _ _).trans (mdW_adr _ _ _ _).symm) hl rfl rfl (Nat.le_of_ble_eq_true rfl) ⟨⟨rfl, rfl⟩, Nat.le_of_ble_eq_true rfl, Nat.le_of_ble_eq_true rfl⟩ ⟨Nat.zero_le _, Nat.zero_le _⟩ dX6_find_16 (fun H locs hP hD hS => ?_)
    refine lv_if_ne (tgt := 26) hx hb dX6_find_19 (by decide) (fun c_19 => ?_) (fun c_19 => ?_)
    · have c_19 := q_b0n c_19
      refine lv_iconst (v := nI 0) hx hb dX6_find_26 (by decide +kernel) ?_
      refine q_put (ty := .int) (ws1 := mdW cA ad g (zs z 4 0)) hx hb hT hown hK hP hD hS kw_X6 tyX6_ok nmX6 0 rfl rfl 27 (by decide) kf_X6_82 rfl rfl (by decide +kernel) rfl rfl (Nat.le_of_ble_eq_true rfl) rfl dX6_find_27 (fun H locs hP hD hS => ?_)
      refine lv_aload_n hx hb dX6_find_30 rfl (lv_at hl 0 rfl) ?_
      refine q_get hx hb hT hown hK hP kw_X6 0 rfl rfl 27 (by decide) kf_X6_82 rfl (v := .int (nI 0)) rfl dX6_find_31 ?_
      refine lv_if_le (tgt := 39) hx hb dX6_find_34 (by decide) (fun c_34 => ?_) (fun c_34 => ?_)
      · have c_34 := nI_le1 (a := 0) (b := 0) (by omega) (by omega) c_34
        refine lv_aload_n hx hb dX6_find_39 rfl (lv_at hl 0 rfl) ?_
        refine lv_iload_n hx hb dX6_find_40 rfl (lv_at hl 1 rfl) ?_
        refine lv_iload_n hx hb dX6_find_41 rfl (lv_at hl 2 rfl) ?_
        refine lv_iload_n hx hb dX6_find_42 rfl (lv_at hl 3 rfl) ?_
        refine lv_iconst (v := nI 1) hx hb dX6_find_43 (by decide +kernel) ?_
        refine q_callIW (As := [.int (nI k), .int lo, .int hi, .int (nI 1)]) (r := nI (mvd dF dL (g 17) (g 18) (z 0))) (w1 := mdW cA ad (gs (gs (gs (gs (gs (gs g 12 (upd (g 12) k lo2)) 13 (upd (g 13) k hi2)) 17 (copyTo (g 17) dF (z 0))) 18 (copyTo (g 18) dL (z 0))) 19 dF) 20 dL) (zs z 4 0)) hx hb hml hown hT hK hP hD hS hA (c_X6_findsT1 l D cA ad g (zs z 4 0) k lo hi u0 dF dL lo2 hi2 (show k < (z 0) by omega) (show (z 0) ≤ 16 by omega) hE (show (z 1) ≤ 40 by omega) hlo2 hhi2 hst hdt) k_X6_finds kl_X6_128 (q0 := 0) rfl rfl rfl ((mdW_adr _ _ _ _).trans (mdW_adr _ _ _ _).symm) hl rfl rfl (Nat.le_of_ble_eq_true rfl) ⟨⟨rfl, rfl⟩, Nat.le_of_ble_eq_true rfl, Nat.le_of_ble_eq_true rfl⟩ ⟨Nat.zero_le _, Nat.zero_le _⟩ dX6_find_44 (fun H locs hP hD hS => ?_)
        refine lv_istore (lv' := [(4, .int (nI (mvd dF dL (g 17) (g 18) (z 0)))), (0, .ref (ad 80)), (1, .int (nI k)), (2, .int lo), (3, .int hi)]) hx hb dX6_find_47 hl (by decide) rfl (fun ls hl => ?_)
        refine lv_aload_n hx hb dX6_find_49 rfl (lv_at hl 1 rfl) ?_
        refine lv_iload hx hb dX6_find_50 (lv_at hl 0 rfl) ?_
        refine lv_iconst (v := (-1)) hx hb dX6_find_52 (by decide +kernel) ?_
        refine lv_icmp_ne (tgt := 60) hx hb dX6_find_53 (by decide) (fun c_53 => ?_) (fun c_53 => ?_)
        · refine lv_iconst (v := nI 0) hx hb dX6_find_60 (by decide +kernel) ?_
          refine q_put (ty := .int) (ws1 := mdW cA ad (gs (gs (gs (gs (gs (gs g 12 (upd (g 12) k lo2)) 13 (upd (g 13) k hi2)) 17 (copyTo (g 17) dF (z 0))) 18 (copyTo (g 18) dL (z 0))) 19 dF) 20 dL) (zs z 4 0)) hx hb hT hown hK hP hD hS kw_X6 tyX6_ok nmX6 0 rfl rfl 27 (by decide) kf_X6_82 rfl rfl (by decide +kernel) rfl rfl (Nat.le_of_ble_eq_true rfl) rfl dX6_find_61 (fun H locs hP hD hS => ?_)
          refine lv_aload_n hx hb dX6_find_64 rfl (lv_at hl 1 rfl) ?_
          refine q_get hx hb hT hown hK hP kw_X6 0 rfl rfl 27 (by decide) kf_X6_82 rfl (v := .int (nI 0)) rfl dX6_find_65 ?_
          refine lv_if_le (tgt := 75) hx hb dX6_find_68 (by decide) (fun c_68 => ?_) (fun c_68 => ?_)
          · have c_68 := nI_le1 (a := 0) (b := 0) (by omega) (by omega) c_68
            refine lv_iload hx hb dX6_find_75 (lv_at hl 0 rfl) ?_
            exact q_iret hx hb hr hlk (by rfl) hP hS dX6_find_77
          · have c_68 := nI_le0 (a := 0) (b := 0) (by omega) (by omega) c_68
            exfalso; omega
        · exact absurd c_53 (q_nIne (Nat.le_trans (mvd_le _ _ _ _ _) hc))
      · have c_34 := nI_le0 (a := 0) (b := 0) (by omega) (by omega) c_34
        exfalso; omega
    · have c_19 := q_b0e c_19
      exact absurd c_19 (by rw [iN_t hlo, iN_t hhi]; decide)
  · have c_6 := q_b0e c_6
    exact absurd c_6 (mB_F (q_r_nI (by omega)) (by omega))
abbrev rm_X6_findx4 : Room := { frames := 2, cells := 0, slots := 0, locals := 52 }
set_option maxRecDepth 100000 in
set_option maxHeartbeats 4000000 in
theorem c_X6_findx4 (l : Launch) (D : va_G) (cA : ClassId) (ad : Nat → Nat) (g : Nat → Nat → Int32) (z : Nat → Nat) (k : Nat) (lo : Int32) (hi : Int32) (u0 : Nat) (dF : Nat → Int32) (dL : Nat → Int32) (lo2 : Int32) (hi2 : Int32) (hk : k < (z 0)) (hc : (z 0) ≤ 16) (hlo : ¬ lo < nI 0 ∧ lo ≤ nI 999) (hhi : ¬ hi < lo ∧ hi ≤ nI 999) (hE : ∀ k, k < (z 1) → q_r ((g 14) k) 16 ∧ q_r ((g 15) k) 16) (ht : (z 1) ≤ 40) (hlo2 : lo2 = mx (g 12 k) lo) (hhi2 : hi2 = mn (g 13 k) hi) (hst : dtH u0 (g 14) (g 15) (g 16) (upd (g 12) k lo2) (upd (g 13) k hi2) (g 19) (g 20) (z 1) (z 0)) (hdt : (dtD u0 (g 14) (g 15) (g 16) (upd (g 12) k lo2) (upd (g 13) k hi2) (g 19) (g 20) (z 1) (z 0)).1 = dF ∧ (dtD u0 (g 14) (g 15) (g 16) (upd (g 12) k lo2) (upd (g 13) k hi2) (g 19) (g 20) (z 1) (z 0)).2.1 = dL ∧ (dtD u0 (g 14) (g 15) (g 16) (upd (g 12) k lo2) (upd (g 13) k hi2) (g 19) (g 20) (z 1) (z 0)).2.2.1 = false) : q_CI l yX6_find [Cond.code yX6_find cX6_find 5 (some .int)] rm_X6_findx4 D cA [.ref (ad 80), .int (nI k), .int lo, .int hi] (mdW cA ad g z) (nI 0) (mdW cA ad (gs (gs g 19 dF) 20 dL) (zs z 4 3)) := by
  refine q_startI RX6 (by decide +kernel) rfl (Nat.le_of_ble_eq_true rfl) ?_
  intro p e s m below meth c A args H locs ls hx hb hr hml hown hT hlk hP hK hD hA hS hl
  have hl : lv_has ls 5 [(0, .ref (ad 80)), (1, .int (nI k)), (2, .int lo), (3, .int hi)] := hl
  refine lv_aload_n hx hb dX6_find_0 rfl (lv_at hl 0 rfl) ?_
  refine lv_aload_n hx hb dX6_find_1 rfl (lv_at hl 0 rfl) ?_
  refine lv_iload_n hx hb dX6_find_2 rfl (lv_at hl 1 rfl) ?_
  refine q_callIW (As := [.int (nI k)]) (r := q_b (mB (nI k) (z 0))) (w1 := mdW cA ad g z) hx hb hml hown hT hK hP hD hS hA (c_X6_isMention l D cA ad g z (nI k) (show (z 0) ≤ 16 by omega)) k_X6_isMention kl_X6_111 (q0 := 0) rfl rfl rfl ((mdW_adr _ _ _ _).trans (mdW_adr _ _ _ _).symm) hl rfl rfl (Nat.le_of_ble_eq_true rfl) ⟨⟨rfl, rfl⟩, Nat.le_of_ble_eq_true rfl, Nat.le_of_ble_eq_true rfl⟩ ⟨Nat.zero_le _, Nat.zero_le _⟩ dX6_find_3 (fun H locs hP hD hS => ?_)
  refine lv_if_ne (tgt := 13) hx hb dX6_find_6 (by decide) (fun c_6 => ?_) (fun c_6 => ?_)
  · have c_6 := q_b0n c_6
    refine lv_aload_n hx hb dX6_find_13 rfl (lv_at hl 0 rfl) ?_
    refine lv_iload_n hx hb dX6_find_14 rfl (lv_at hl 2 rfl) ?_
    refine lv_iload_n hx hb dX6_find_15 rfl (lv_at hl 3 rfl) ?_
    refine q_callIW (As := [.int lo, .int hi]) (r := q_b (iN lo (nI 0) (nI 999) && iN hi lo (nI 999))) (w1 := mdW cA ad g z) hx hb hml hown hT hK hP hD hS hA (c_X6_areYears l D cA ad g z lo hi) k_X6_areYears kl_X6_125 (q0 := 0) rfl rfl rfl ((mdW_adr _ _ _ _).trans (mdW_adr _ _ _ _).symm) hl rfl rfl (Nat.le_of_ble_eq_true rfl) ⟨⟨rfl, rfl⟩, Nat.le_of_ble_eq_true rfl, Nat.le_of_ble_eq_true rfl⟩ ⟨Nat.zero_le _, Nat.zero_le _⟩ dX6_find_16 (fun H locs hP hD hS => ?_)
    refine lv_if_ne (tgt := 26) hx hb dX6_find_19 (by decide) (fun c_19 => ?_) (fun c_19 => ?_)
    · have c_19 := q_b0n c_19
      refine lv_iconst (v := nI 0) hx hb dX6_find_26 (by decide +kernel) ?_
      refine q_put (ty := .int) (ws1 := mdW cA ad g (zs z 4 0)) hx hb hT hown hK hP hD hS kw_X6 tyX6_ok nmX6 0 rfl rfl 27 (by decide) kf_X6_82 rfl rfl (by decide +kernel) rfl rfl (Nat.le_of_ble_eq_true rfl) rfl dX6_find_27 (fun H locs hP hD hS => ?_)
      refine lv_aload_n hx hb dX6_find_30 rfl (lv_at hl 0 rfl) ?_
      refine q_get hx hb hT hown hK hP kw_X6 0 rfl rfl 27 (by decide) kf_X6_82 rfl (v := .int (nI 0)) rfl dX6_find_31 ?_
      refine lv_if_le (tgt := 39) hx hb dX6_find_34 (by decide) (fun c_34 => ?_) (fun c_34 => ?_)
      · have c_34 := nI_le1 (a := 0) (b := 0) (by omega) (by omega) c_34
        refine lv_aload_n hx hb dX6_find_39 rfl (lv_at hl 0 rfl) ?_
        refine lv_iload_n hx hb dX6_find_40 rfl (lv_at hl 1 rfl) ?_
        refine lv_iload_n hx hb dX6_find_41 rfl (lv_at hl 2 rfl) ?_
        refine lv_iload_n hx hb dX6_find_42 rfl (lv_at hl 3 rfl) ?_
        refine lv_iconst (v := nI 1) hx hb dX6_find_43 (by decide +kernel) ?_
        refine q_callIW (As := [.int (nI k), .int lo, .int hi, .int (nI 1)]) (r := (-1)) (w1 := mdW cA ad (gs (gs g 19 dF) 20 dL) (zs z 4 0)) hx hb hml hown hT hK hP hD hS hA (c_X6_findsT0 l D cA ad g (zs z 4 0) k lo hi u0 dF dL lo2 hi2 (show k < (z 0) by omega) (show (z 0) ≤ 16 by omega) hE (show (z 1) ≤ 40 by omega) hlo2 hhi2 hst hdt) k_X6_finds kl_X6_128 (q0 := 0) rfl rfl rfl ((mdW_adr _ _ _ _).trans (mdW_adr _ _ _ _).symm) hl rfl rfl (Nat.le_of_ble_eq_true rfl) ⟨⟨rfl, rfl⟩, Nat.le_of_ble_eq_true rfl, Nat.le_of_ble_eq_true rfl⟩ ⟨Nat.zero_le _, Nat.zero_le _⟩ dX6_find_44 (fun H locs hP hD hS => ?_)
        refine lv_istore (lv' := [(4, .int (-1)), (0, .ref (ad 80)), (1, .int (nI k)), (2, .int lo), (3, .int hi)]) hx hb dX6_find_47 hl (by decide) rfl (fun ls hl => ?_)
        refine lv_aload_n hx hb dX6_find_49 rfl (lv_at hl 1 rfl) ?_
        refine lv_iload hx hb dX6_find_50 (lv_at hl 0 rfl) ?_
        refine lv_iconst (v := (-1)) hx hb dX6_find_52 (by decide +kernel) ?_
        refine lv_icmp_ne (tgt := 60) hx hb dX6_find_53 (by decide) (fun c_53 => ?_) (fun c_53 => ?_)
        · exact absurd rfl c_53
        · refine lv_iconst (v := nI 3) hx hb dX6_find_56 (by decide +kernel) ?_
          refine lv_goto (tgt := 61) hx hb dX6_find_57 (by decide) ?_
          refine q_put (ty := .int) (ws1 := mdW cA ad (gs (gs g 19 dF) 20 dL) (zs z 4 3)) hx hb hT hown hK hP hD hS kw_X6 tyX6_ok nmX6 0 rfl rfl 27 (by decide) kf_X6_82 rfl rfl (by decide +kernel) rfl rfl (Nat.le_of_ble_eq_true rfl) rfl dX6_find_61 (fun H locs hP hD hS => ?_)
          refine lv_aload_n hx hb dX6_find_64 rfl (lv_at hl 1 rfl) ?_
          refine q_get hx hb hT hown hK hP kw_X6 0 rfl rfl 27 (by decide) kf_X6_82 rfl (v := .int (nI 3)) rfl dX6_find_65 ?_
          refine lv_if_le (tgt := 75) hx hb dX6_find_68 (by decide) (fun c_68 => ?_) (fun c_68 => ?_)
          · have c_68 := nI_le1 (a := 3) (b := 0) (by omega) (by omega) c_68
            exfalso; omega
          · have c_68 := nI_le0 (a := 3) (b := 0) (by omega) (by omega) c_68
            refine lv_iconst (v := nI 0) hx hb dX6_find_71 (by decide +kernel) ?_
            refine lv_goto (tgt := 77) hx hb dX6_find_72 (by decide) ?_
            exact q_iret hx hb hr hlk (by rfl) hP hS dX6_find_77
      · have c_34 := nI_le0 (a := 0) (b := 0) (by omega) (by omega) c_34
        exfalso; omega
    · have c_19 := q_b0e c_19
      exact absurd c_19 (by rw [iN_t hlo, iN_t hhi]; decide)
  · have c_6 := q_b0e c_6
    exact absurd c_6 (mB_F (q_r_nI (by omega)) (by omega))
abbrev rm_X6_wouldMove : Room := { frames := 2, cells := 0, slots := 0, locals := 52 }
set_option maxRecDepth 100000 in
set_option maxHeartbeats 4000000 in
theorem c_X6_wouldMove (l : Launch) (D : va_G) (cA : ClassId) (ad : Nat → Nat) (g : Nat → Nat → Int32) (z : Nat → Nat) (k : Nat) (lo : Int32) (hi : Int32) (u0 : Nat) (dF : Nat → Int32) (dL : Nat → Int32) (lo2 : Int32) (hi2 : Int32) (hk : k < (z 0)) (hc : (z 0) ≤ 16) (hlo : ¬ lo < nI 0 ∧ lo ≤ nI 999) (hhi : ¬ hi < lo ∧ hi ≤ nI 999) (hE : ∀ k, k < (z 1) → q_r ((g 14) k) 16 ∧ q_r ((g 15) k) 16) (ht : (z 1) ≤ 40) (hlo2 : lo2 = mx (g 12 k) lo) (hhi2 : hi2 = mn (g 13 k) hi) (hst : dtH u0 (g 14) (g 15) (g 16) (upd (g 12) k lo2) (upd (g 13) k hi2) (g 19) (g 20) (z 1) (z 0)) (hdt : (dtD u0 (g 14) (g 15) (g 16) (upd (g 12) k lo2) (upd (g 13) k hi2) (g 19) (g 20) (z 1) (z 0)).1 = dF ∧ (dtD u0 (g 14) (g 15) (g 16) (upd (g 12) k lo2) (upd (g 13) k hi2) (g 19) (g 20) (z 1) (z 0)).2.1 = dL ∧ (dtD u0 (g 14) (g 15) (g 16) (upd (g 12) k lo2) (upd (g 13) k hi2) (g 19) (g 20) (z 1) (z 0)).2.2.1 = true) : q_CI l yX6_wouldMove [Cond.code yX6_wouldMove cX6_wouldMove 4 (some .int)] rm_X6_wouldMove D cA [.ref (ad 80), .int (nI k), .int lo, .int hi] (mdW cA ad g z) (nI (mvd dF dL (g 17) (g 18) (z 0))) (mdW cA ad (gs (gs g 19 dF) 20 dL) (zs z 4 0)) := by
  refine q_startI RX6 (by decide +kernel) rfl (Nat.le_of_ble_eq_true rfl) ?_
  intro p e s m below meth c A args H locs ls hx hb hr hml hown hT hlk hP hK hD hA hS hl
  have hl : lv_has ls 4 [(0, .ref (ad 80)), (1, .int (nI k)), (2, .int lo), (3, .int hi)] := hl
  refine lv_aload_n hx hb dX6_wouldMove_0 rfl (lv_at hl 0 rfl) ?_
  refine lv_aload_n hx hb dX6_wouldMove_1 rfl (lv_at hl 0 rfl) ?_
  refine lv_iload_n hx hb dX6_wouldMove_2 rfl (lv_at hl 1 rfl) ?_
  refine q_callIW (As := [.int (nI k)]) (r := q_b (mB (nI k) (z 0))) (w1 := mdW cA ad g z) hx hb hml hown hT hK hP hD hS hA (c_X6_isMention l D cA ad g z (nI k) (show (z 0) ≤ 16 by omega)) k_X6_isMention kl_X6_111 (q0 := 0) rfl rfl rfl ((mdW_adr _ _ _ _).trans (mdW_adr _ _ _ _).symm) hl rfl rfl (Nat.le_of_ble_eq_true rfl) ⟨⟨rfl, rfl⟩, Nat.le_of_ble_eq_true rfl, Nat.le_of_ble_eq_true rfl⟩ ⟨Nat.zero_le _, Nat.zero_le _⟩ dX6_wouldMove_3 (fun H locs hP hD hS => ?_)
  refine lv_if_ne (tgt := 13) hx hb dX6_wouldMove_6 (by decide) (fun c_6 => ?_) (fun c_6 => ?_)
  · have c_6 := q_b0n c_6
    refine lv_aload_n hx hb dX6_wouldMove_13 rfl (lv_at hl 0 rfl) ?_
    refine lv_iload_n hx hb dX6_wouldMove_14 rfl (lv_at hl 2 rfl) ?_
    refine lv_iload_n hx hb dX6_wouldMove_15 rfl (lv_at hl 3 rfl) ?_
    refine q_callIW (As := [.int lo, .int hi]) (r := q_b (iN lo (nI 0) (nI 999) && iN hi lo (nI 999))) (w1 := mdW cA ad g z) hx hb hml hown hT hK hP hD hS hA (c_X6_areYears l D cA ad g z lo hi) k_X6_areYears kl_X6_125 (q0 := 0) rfl rfl rfl ((mdW_adr _ _ _ _).trans (mdW_adr _ _ _ _).symm) hl rfl rfl (Nat.le_of_ble_eq_true rfl) ⟨⟨rfl, rfl⟩, Nat.le_of_ble_eq_true rfl, Nat.le_of_ble_eq_true rfl⟩ ⟨Nat.zero_le _, Nat.zero_le _⟩ dX6_wouldMove_16 (fun H locs hP hD hS => ?_)
    refine lv_if_ne (tgt := 26) hx hb dX6_wouldMove_19 (by decide) (fun c_19 => ?_) (fun c_19 => ?_)
    · have c_19 := q_b0n c_19
      refine lv_iconst (v := nI 0) hx hb dX6_wouldMove_26 (by decide +kernel) ?_
      refine q_put (ty := .int) (ws1 := mdW cA ad g (zs z 4 0)) hx hb hT hown hK hP hD hS kw_X6 tyX6_ok nmX6 0 rfl rfl 27 (by decide) kf_X6_82 rfl rfl (by decide +kernel) rfl rfl (Nat.le_of_ble_eq_true rfl) rfl dX6_wouldMove_27 (fun H locs hP hD hS => ?_)
      refine lv_aload_n hx hb dX6_wouldMove_30 rfl (lv_at hl 0 rfl) ?_
      refine q_get hx hb hT hown hK hP kw_X6 0 rfl rfl 27 (by decide) kf_X6_82 rfl (v := .int (nI 0)) rfl dX6_wouldMove_31 ?_
      refine lv_if_le (tgt := 41) hx hb dX6_wouldMove_34 (by decide) (fun c_34 => ?_) (fun c_34 => ?_)
      · have c_34 := nI_le1 (a := 0) (b := 0) (by omega) (by omega) c_34
        refine lv_aload_n hx hb dX6_wouldMove_41 rfl (lv_at hl 0 rfl) ?_
        refine lv_iload_n hx hb dX6_wouldMove_42 rfl (lv_at hl 1 rfl) ?_
        refine lv_iload_n hx hb dX6_wouldMove_43 rfl (lv_at hl 2 rfl) ?_
        refine lv_iload_n hx hb dX6_wouldMove_44 rfl (lv_at hl 3 rfl) ?_
        refine lv_iconst (v := nI 0) hx hb dX6_wouldMove_45 (by decide +kernel) ?_
        refine q_callIW (As := [.int (nI k), .int lo, .int hi, .int (nI 0)]) (r := nI (mvd dF dL (g 17) (g 18) (z 0))) (w1 := mdW cA ad (gs (gs g 19 dF) 20 dL) (zs z 4 0)) hx hb hml hown hT hK hP hD hS hA (c_X6_findsF1 l D cA ad g (zs z 4 0) k lo hi u0 dF dL lo2 hi2 (show k < (z 0) by omega) (show (z 0) ≤ 16 by omega) hE (show (z 1) ≤ 40 by omega) hlo2 hhi2 hst hdt) k_X6_finds kl_X6_128 (q0 := 0) rfl rfl rfl ((mdW_adr _ _ _ _).trans (mdW_adr _ _ _ _).symm) hl rfl rfl (Nat.le_of_ble_eq_true rfl) ⟨⟨rfl, rfl⟩, Nat.le_of_ble_eq_true rfl, Nat.le_of_ble_eq_true rfl⟩ ⟨Nat.zero_le _, Nat.zero_le _⟩ dX6_wouldMove_46 (fun H locs hP hD hS => ?_)
        exact q_iret hx hb hr hlk (by rfl) hP hS dX6_wouldMove_49
      · have c_34 := nI_le0 (a := 0) (b := 0) (by omega) (by omega) c_34
        exfalso; omega
    · have c_19 := q_b0e c_19
      exact absurd c_19 (by rw [iN_t hlo, iN_t hhi]; decide)
  · have c_6 := q_b0e c_6
    exact absurd c_6 (mB_F (q_r_nI (by omega)) (by omega))
abbrev rm_X6_wouldMoven : Room := { frames := 2, cells := 0, slots := 0, locals := 52 }
set_option maxRecDepth 100000 in
set_option maxHeartbeats 4000000 in
theorem c_X6_wouldMoven (l : Launch) (D : va_G) (cA : ClassId) (ad : Nat → Nat) (g : Nat → Nat → Int32) (z : Nat → Nat) (k : Nat) (lo : Int32) (hi : Int32) (u0 : Nat) (dF : Nat → Int32) (dL : Nat → Int32) (lo2 : Int32) (hi2 : Int32) (hk : k < (z 0)) (hc : (z 0) ≤ 16) (hlo : ¬ lo < nI 0 ∧ lo ≤ nI 999) (hhi : ¬ hi < lo ∧ hi ≤ nI 999) (hE : ∀ k, k < (z 1) → q_r ((g 14) k) 16 ∧ q_r ((g 15) k) 16) (ht : (z 1) ≤ 40) (hlo2 : lo2 = mx (g 12 k) lo) (hhi2 : hi2 = mn (g 13 k) hi) (hst : dtH u0 (g 14) (g 15) (g 16) (upd (g 12) k lo2) (upd (g 13) k hi2) (g 19) (g 20) (z 1) (z 0)) (hdt : (dtD u0 (g 14) (g 15) (g 16) (upd (g 12) k lo2) (upd (g 13) k hi2) (g 19) (g 20) (z 1) (z 0)).1 = dF ∧ (dtD u0 (g 14) (g 15) (g 16) (upd (g 12) k lo2) (upd (g 13) k hi2) (g 19) (g 20) (z 1) (z 0)).2.1 = dL ∧ (dtD u0 (g 14) (g 15) (g 16) (upd (g 12) k lo2) (upd (g 13) k hi2) (g 19) (g 20) (z 1) (z 0)).2.2.1 = false) : q_CI l yX6_wouldMove [Cond.code yX6_wouldMove cX6_wouldMove 4 (some .int)] rm_X6_wouldMoven D cA [.ref (ad 80), .int (nI k), .int lo, .int hi] (mdW cA ad g z) (-1) (mdW cA ad (gs (gs g 19 dF) 20 dL) (zs z 4 0)) := by
  refine q_startI RX6 (by decide +kernel) rfl (Nat.le_of_ble_eq_true rfl) ?_
  intro p e s m below meth c A args H locs ls hx hb hr hml hown hT hlk hP hK hD hA hS hl
  have hl : lv_has ls 4 [(0, .ref (ad 80)), (1, .int (nI k)), (2, .int lo), (3, .int hi)] := hl
  refine lv_aload_n hx hb dX6_wouldMove_0 rfl (lv_at hl 0 rfl) ?_
  refine lv_aload_n hx hb dX6_wouldMove_1 rfl (lv_at hl 0 rfl) ?_
  refine lv_iload_n hx hb dX6_wouldMove_2 rfl (lv_at hl 1 rfl) ?_
  refine q_callIW (As := [.int (nI k)]) (r := q_b (mB (nI k) (z 0))) (w1 := mdW cA ad g z) hx hb hml hown hT hK hP hD hS hA (c_X6_isMention l D cA ad g z (nI k) (show (z 0) ≤ 16 by omega)) k_X6_isMention kl_X6_111 (q0 := 0) rfl rfl rfl ((mdW_adr _ _ _ _).trans (mdW_adr _ _ _ _).symm) hl rfl rfl (Nat.le_of_ble_eq_true rfl) ⟨⟨rfl, rfl⟩, Nat.le_of_ble_eq_true rfl, Nat.le_of_ble_eq_true rfl⟩ ⟨Nat.zero_le _, Nat.zero_le _⟩ dX6_wouldMove_3 (fun H locs hP hD hS => ?_)
  refine lv_if_ne (tgt := 13) hx hb dX6_wouldMove_6 (by decide) (fun c_6 => ?_) (fun c_6 => ?_)
  · have c_6 := q_b0n c_6
    refine lv_aload_n hx hb dX6_wouldMove_13 rfl (lv_at hl 0 rfl) ?_
    refine lv_iload_n hx hb dX6_wouldMove_14 rfl (lv_at hl 2 rfl) ?_
    refine lv_iload_n hx hb dX6_wouldMove_15 rfl (lv_at hl 3 rfl) ?_
    refine q_callIW (As := [.int lo, .int hi]) (r := q_b (iN lo (nI 0) (nI 999) && iN hi lo (nI 999))) (w1 := mdW cA ad g z) hx hb hml hown hT hK hP hD hS hA (c_X6_areYears l D cA ad g z lo hi) k_X6_areYears kl_X6_125 (q0 := 0) rfl rfl rfl ((mdW_adr _ _ _ _).trans (mdW_adr _ _ _ _).symm) hl rfl rfl (Nat.le_of_ble_eq_true rfl) ⟨⟨rfl, rfl⟩, Nat.le_of_ble_eq_true rfl, Nat.le_of_ble_eq_true rfl⟩ ⟨Nat.zero_le _, Nat.zero_le _⟩ dX6_wouldMove_16 (fun H locs hP hD hS => ?_)
    refine lv_if_ne (tgt := 26) hx hb dX6_wouldMove_19 (by decide) (fun c_19 => ?_) (fun c_19 => ?_)
    · have c_19 := q_b0n c_19
      refine lv_iconst (v := nI 0) hx hb dX6_wouldMove_26 (by decide +kernel) ?_
      refine q_put (ty := .int) (ws1 := mdW cA ad g (zs z 4 0)) hx hb hT hown hK hP hD hS kw_X6 tyX6_ok nmX6 0 rfl rfl 27 (by decide) kf_X6_82 rfl rfl (by decide +kernel) rfl rfl (Nat.le_of_ble_eq_true rfl) rfl dX6_wouldMove_27 (fun H locs hP hD hS => ?_)
      refine lv_aload_n hx hb dX6_wouldMove_30 rfl (lv_at hl 0 rfl) ?_
      refine q_get hx hb hT hown hK hP kw_X6 0 rfl rfl 27 (by decide) kf_X6_82 rfl (v := .int (nI 0)) rfl dX6_wouldMove_31 ?_
      refine lv_if_le (tgt := 41) hx hb dX6_wouldMove_34 (by decide) (fun c_34 => ?_) (fun c_34 => ?_)
      · have c_34 := nI_le1 (a := 0) (b := 0) (by omega) (by omega) c_34
        refine lv_aload_n hx hb dX6_wouldMove_41 rfl (lv_at hl 0 rfl) ?_
        refine lv_iload_n hx hb dX6_wouldMove_42 rfl (lv_at hl 1 rfl) ?_
        refine lv_iload_n hx hb dX6_wouldMove_43 rfl (lv_at hl 2 rfl) ?_
        refine lv_iload_n hx hb dX6_wouldMove_44 rfl (lv_at hl 3 rfl) ?_
        refine lv_iconst (v := nI 0) hx hb dX6_wouldMove_45 (by decide +kernel) ?_
        refine q_callIW (As := [.int (nI k), .int lo, .int hi, .int (nI 0)]) (r := (-1)) (w1 := mdW cA ad (gs (gs g 19 dF) 20 dL) (zs z 4 0)) hx hb hml hown hT hK hP hD hS hA (c_X6_findsF0 l D cA ad g (zs z 4 0) k lo hi u0 dF dL lo2 hi2 (show k < (z 0) by omega) (show (z 0) ≤ 16 by omega) hE (show (z 1) ≤ 40 by omega) hlo2 hhi2 hst hdt) k_X6_finds kl_X6_128 (q0 := 0) rfl rfl rfl ((mdW_adr _ _ _ _).trans (mdW_adr _ _ _ _).symm) hl rfl rfl (Nat.le_of_ble_eq_true rfl) ⟨⟨rfl, rfl⟩, Nat.le_of_ble_eq_true rfl, Nat.le_of_ble_eq_true rfl⟩ ⟨Nat.zero_le _, Nat.zero_le _⟩ dX6_wouldMove_46 (fun H locs hP hD hS => ?_)
        exact q_iret hx hb hr hlk (by rfl) hP hS dX6_wouldMove_49
      · have c_34 := nI_le0 (a := 0) (b := 0) (by omega) (by omega) c_34
        exfalso; omega
    · have c_19 := q_b0e c_19
      exact absurd c_19 (by rw [iN_t hlo, iN_t hhi]; decide)
  · have c_6 := q_b0e c_6
    exact absurd c_6 (mB_F (q_r_nI (by omega)) (by omega))
abbrev rm_X6_findx : Room := { frames := 2, cells := 0, slots := 0, locals := 43 }
set_option maxRecDepth 100000 in
set_option maxHeartbeats 4000000 in
theorem c_X6_findx (l : Launch) (D : va_G) (cA : ClassId) (ad : Nat → Nat) (g : Nat → Nat → Int32) (z : Nat → Nat) (w : Int32) (lo : Int32) (hi : Int32) (hw : ¬ q_r w (z 0)) (hc : (z 0) ≤ 16) : q_CI l yX6_find [Cond.code yX6_find cX6_find 5 (some .int)] rm_X6_findx D cA [.ref (ad 80), .int w, .int lo, .int hi] (mdW cA ad g z) (nI 0) (mdW cA ad g (zs z 4 1)) := by
  refine q_startI RX6 (by decide +kernel) rfl (Nat.le_of_ble_eq_true rfl) ?_
  intro p e s m below meth c A args H locs ls hx hb hr hml hown hT hlk hP hK hD hA hS hl
  have hl : lv_has ls 5 [(0, .ref (ad 80)), (1, .int w), (2, .int lo), (3, .int hi)] := hl
  refine lv_aload_n hx hb dX6_find_0 rfl (lv_at hl 0 rfl) ?_
  refine lv_aload_n hx hb dX6_find_1 rfl (lv_at hl 0 rfl) ?_
  refine lv_iload_n hx hb dX6_find_2 rfl (lv_at hl 1 rfl) ?_
  refine q_callIW (As := [.int w]) (r := q_b (mB w (z 0))) (w1 := mdW cA ad g z) hx hb hml hown hT hK hP hD hS hA (c_X6_isMention l D cA ad g z w (show (z 0) ≤ 16 by omega)) k_X6_isMention kl_X6_111 (q0 := 0) rfl rfl rfl ((mdW_adr _ _ _ _).trans (mdW_adr _ _ _ _).symm) hl rfl rfl (Nat.le_of_ble_eq_true rfl) ⟨⟨rfl, rfl⟩, Nat.le_of_ble_eq_true rfl, Nat.le_of_ble_eq_true rfl⟩ ⟨Nat.zero_le _, Nat.zero_le _⟩ dX6_find_3 (fun H locs hP hD hS => ?_)
  refine lv_if_ne (tgt := 13) hx hb dX6_find_6 (by decide) (fun c_6 => ?_) (fun c_6 => ?_)
  · have c_6 := q_b0n c_6
    exact absurd c_6 (mB_T hw (by omega))
  · have c_6 := q_b0e c_6
    refine lv_iconst (v := nI 1) hx hb dX6_find_9 (by decide +kernel) ?_
    refine lv_goto (tgt := 27) hx hb dX6_find_10 (by decide) ?_
    refine q_put (ty := .int) (ws1 := mdW cA ad g (zs z 4 1)) hx hb hT hown hK hP hD hS kw_X6 tyX6_ok nmX6 0 rfl rfl 27 (by decide) kf_X6_82 rfl rfl (by decide +kernel) rfl rfl (Nat.le_of_ble_eq_true rfl) rfl dX6_find_27 (fun H locs hP hD hS => ?_)
    refine lv_aload_n hx hb dX6_find_30 rfl (lv_at hl 0 rfl) ?_
    refine q_get hx hb hT hown hK hP kw_X6 0 rfl rfl 27 (by decide) kf_X6_82 rfl (v := .int (nI 1)) rfl dX6_find_31 ?_
    refine lv_if_le (tgt := 39) hx hb dX6_find_34 (by decide) (fun c_34 => ?_) (fun c_34 => ?_)
    · have c_34 := nI_le1 (a := 1) (b := 0) (by omega) (by omega) c_34
      exfalso; omega
    · have c_34 := nI_le0 (a := 1) (b := 0) (by omega) (by omega) c_34
      refine lv_iconst (v := nI 0) hx hb dX6_find_37 (by decide +kernel) ?_
      exact q_iret hx hb hr hlk (by rfl) hP hS dX6_find_38
abbrev rm_X6_findx2 : Room := { frames := 2, cells := 0, slots := 0, locals := 44 }
set_option maxRecDepth 100000 in
set_option maxHeartbeats 4000000 in
theorem c_X6_findx2 (l : Launch) (D : va_G) (cA : ClassId) (ad : Nat → Nat) (g : Nat → Nat → Int32) (z : Nat → Nat) (w : Int32) (lo : Int32) (hi : Int32) (hw : q_r w (z 0)) (hc : (z 0) ≤ 16) (hlh : ¬ ((¬ lo < nI 0 ∧ lo ≤ nI 999) ∧ (¬ hi < lo ∧ hi ≤ nI 999))) : q_CI l yX6_find [Cond.code yX6_find cX6_find 5 (some .int)] rm_X6_findx2 D cA [.ref (ad 80), .int w, .int lo, .int hi] (mdW cA ad g z) (nI 0) (mdW cA ad g (zs z 4 2)) := by
  refine q_startI RX6 (by decide +kernel) rfl (Nat.le_of_ble_eq_true rfl) ?_
  intro p e s m below meth c A args H locs ls hx hb hr hml hown hT hlk hP hK hD hA hS hl
  have hl : lv_has ls 5 [(0, .ref (ad 80)), (1, .int w), (2, .int lo), (3, .int hi)] := hl
  refine lv_aload_n hx hb dX6_find_0 rfl (lv_at hl 0 rfl) ?_
  refine lv_aload_n hx hb dX6_find_1 rfl (lv_at hl 0 rfl) ?_
  refine lv_iload_n hx hb dX6_find_2 rfl (lv_at hl 1 rfl) ?_
  refine q_callIW (As := [.int w]) (r := q_b (mB w (z 0))) (w1 := mdW cA ad g z) hx hb hml hown hT hK hP hD hS hA (c_X6_isMention l D cA ad g z w (show (z 0) ≤ 16 by omega)) k_X6_isMention kl_X6_111 (q0 := 0) rfl rfl rfl ((mdW_adr _ _ _ _).trans (mdW_adr _ _ _ _).symm) hl rfl rfl (Nat.le_of_ble_eq_true rfl) ⟨⟨rfl, rfl⟩, Nat.le_of_ble_eq_true rfl, Nat.le_of_ble_eq_true rfl⟩ ⟨Nat.zero_le _, Nat.zero_le _⟩ dX6_find_3 (fun H locs hP hD hS => ?_)
  refine lv_if_ne (tgt := 13) hx hb dX6_find_6 (by decide) (fun c_6 => ?_) (fun c_6 => ?_)
  · have c_6 := q_b0n c_6
    refine lv_aload_n hx hb dX6_find_13 rfl (lv_at hl 0 rfl) ?_
    refine lv_iload_n hx hb dX6_find_14 rfl (lv_at hl 2 rfl) ?_
    refine lv_iload_n hx hb dX6_find_15 rfl (lv_at hl 3 rfl) ?_
    refine q_callIW (As := [.int lo, .int hi]) (r := q_b (iN lo (nI 0) (nI 999) && iN hi lo (nI 999))) (w1 := mdW cA ad g z) hx hb hml hown hT hK hP hD hS hA (c_X6_areYears l D cA ad g z lo hi) k_X6_areYears kl_X6_125 (q0 := 0) rfl rfl rfl ((mdW_adr _ _ _ _).trans (mdW_adr _ _ _ _).symm) hl rfl rfl (Nat.le_of_ble_eq_true rfl) ⟨⟨rfl, rfl⟩, Nat.le_of_ble_eq_true rfl, Nat.le_of_ble_eq_true rfl⟩ ⟨Nat.zero_le _, Nat.zero_le _⟩ dX6_find_16 (fun H locs hP hD hS => ?_)
    refine lv_if_ne (tgt := 26) hx hb dX6_find_19 (by decide) (fun c_19 => ?_) (fun c_19 => ?_)
    · have c_19 := q_b0n c_19
      rw [Bool.and_eq_true] at c_19; exact absurd ⟨iN_e c_19.1, iN_e c_19.2⟩ hlh
    · have c_19 := q_b0e c_19
      refine lv_iconst (v := nI 2) hx hb dX6_find_22 (by decide +kernel) ?_
      refine lv_goto (tgt := 27) hx hb dX6_find_23 (by decide) ?_
      refine q_put (ty := .int) (ws1 := mdW cA ad g (zs z 4 2)) hx hb hT hown hK hP hD hS kw_X6 tyX6_ok nmX6 0 rfl rfl 27 (by decide) kf_X6_82 rfl rfl (by decide +kernel) rfl rfl (Nat.le_of_ble_eq_true rfl) rfl dX6_find_27 (fun H locs hP hD hS => ?_)
      refine lv_aload_n hx hb dX6_find_30 rfl (lv_at hl 0 rfl) ?_
      refine q_get hx hb hT hown hK hP kw_X6 0 rfl rfl 27 (by decide) kf_X6_82 rfl (v := .int (nI 2)) rfl dX6_find_31 ?_
      refine lv_if_le (tgt := 39) hx hb dX6_find_34 (by decide) (fun c_34 => ?_) (fun c_34 => ?_)
      · have c_34 := nI_le1 (a := 2) (b := 0) (by omega) (by omega) c_34
        exfalso; omega
      · have c_34 := nI_le0 (a := 2) (b := 0) (by omega) (by omega) c_34
        refine lv_iconst (v := nI 0) hx hb dX6_find_37 (by decide +kernel) ?_
        exact q_iret hx hb hr hlk (by rfl) hP hS dX6_find_38
  · have c_6 := q_b0e c_6
    exact absurd c_6 (mB_F hw (by omega))
abbrev rm_X6_wouldMovex : Room := { frames := 2, cells := 0, slots := 0, locals := 43 }
set_option maxRecDepth 100000 in
set_option maxHeartbeats 4000000 in
theorem c_X6_wouldMovex (l : Launch) (D : va_G) (cA : ClassId) (ad : Nat → Nat) (g : Nat → Nat → Int32) (z : Nat → Nat) (w : Int32) (lo : Int32) (hi : Int32) (hw : ¬ q_r w (z 0)) (hc : (z 0) ≤ 16) : q_CI l yX6_wouldMove [Cond.code yX6_wouldMove cX6_wouldMove 4 (some .int)] rm_X6_wouldMovex D cA [.ref (ad 80), .int w, .int lo, .int hi] (mdW cA ad g z) (nI 0) (mdW cA ad g (zs z 4 1)) := by
  refine q_startI RX6 (by decide +kernel) rfl (Nat.le_of_ble_eq_true rfl) ?_
  intro p e s m below meth c A args H locs ls hx hb hr hml hown hT hlk hP hK hD hA hS hl
  have hl : lv_has ls 4 [(0, .ref (ad 80)), (1, .int w), (2, .int lo), (3, .int hi)] := hl
  refine lv_aload_n hx hb dX6_wouldMove_0 rfl (lv_at hl 0 rfl) ?_
  refine lv_aload_n hx hb dX6_wouldMove_1 rfl (lv_at hl 0 rfl) ?_
  refine lv_iload_n hx hb dX6_wouldMove_2 rfl (lv_at hl 1 rfl) ?_
  refine q_callIW (As := [.int w]) (r := q_b (mB w (z 0))) (w1 := mdW cA ad g z) hx hb hml hown hT hK hP hD hS hA (c_X6_isMention l D cA ad g z w (show (z 0) ≤ 16 by omega)) k_X6_isMention kl_X6_111 (q0 := 0) rfl rfl rfl ((mdW_adr _ _ _ _).trans (mdW_adr _ _ _ _).symm) hl rfl rfl (Nat.le_of_ble_eq_true rfl) ⟨⟨rfl, rfl⟩, Nat.le_of_ble_eq_true rfl, Nat.le_of_ble_eq_true rfl⟩ ⟨Nat.zero_le _, Nat.zero_le _⟩ dX6_wouldMove_3 (fun H locs hP hD hS => ?_)
  refine lv_if_ne (tgt := 13) hx hb dX6_wouldMove_6 (by decide) (fun c_6 => ?_) (fun c_6 => ?_)
  · have c_6 := q_b0n c_6
    exact absurd c_6 (mB_T hw (by omega))
  · have c_6 := q_b0e c_6
    refine lv_iconst (v := nI 1) hx hb dX6_wouldMove_9 (by decide +kernel) ?_
    refine lv_goto (tgt := 27) hx hb dX6_wouldMove_10 (by decide) ?_
    refine q_put (ty := .int) (ws1 := mdW cA ad g (zs z 4 1)) hx hb hT hown hK hP hD hS kw_X6 tyX6_ok nmX6 0 rfl rfl 27 (by decide) kf_X6_82 rfl rfl (by decide +kernel) rfl rfl (Nat.le_of_ble_eq_true rfl) rfl dX6_wouldMove_27 (fun H locs hP hD hS => ?_)
    refine lv_aload_n hx hb dX6_wouldMove_30 rfl (lv_at hl 0 rfl) ?_
    refine q_get hx hb hT hown hK hP kw_X6 0 rfl rfl 27 (by decide) kf_X6_82 rfl (v := .int (nI 1)) rfl dX6_wouldMove_31 ?_
    refine lv_if_le (tgt := 41) hx hb dX6_wouldMove_34 (by decide) (fun c_34 => ?_) (fun c_34 => ?_)
    · have c_34 := nI_le1 (a := 1) (b := 0) (by omega) (by omega) c_34
      exfalso; omega
    · have c_34 := nI_le0 (a := 1) (b := 0) (by omega) (by omega) c_34
      refine lv_iconst (v := nI 0) hx hb dX6_wouldMove_37 (by decide +kernel) ?_
      refine lv_goto (tgt := 49) hx hb dX6_wouldMove_38 (by decide) ?_
      exact q_iret hx hb hr hlk (by rfl) hP hS dX6_wouldMove_49
abbrev rm_X6_wouldMovex2 : Room := { frames := 2, cells := 0, slots := 0, locals := 44 }
set_option maxRecDepth 100000 in
set_option maxHeartbeats 4000000 in
theorem c_X6_wouldMovex2 (l : Launch) (D : va_G) (cA : ClassId) (ad : Nat → Nat) (g : Nat → Nat → Int32) (z : Nat → Nat) (w : Int32) (lo : Int32) (hi : Int32) (hw : q_r w (z 0)) (hc : (z 0) ≤ 16) (hlh : ¬ ((¬ lo < nI 0 ∧ lo ≤ nI 999) ∧ (¬ hi < lo ∧ hi ≤ nI 999))) : q_CI l yX6_wouldMove [Cond.code yX6_wouldMove cX6_wouldMove 4 (some .int)] rm_X6_wouldMovex2 D cA [.ref (ad 80), .int w, .int lo, .int hi] (mdW cA ad g z) (nI 0) (mdW cA ad g (zs z 4 2)) := by
  refine q_startI RX6 (by decide +kernel) rfl (Nat.le_of_ble_eq_true rfl) ?_
  intro p e s m below meth c A args H locs ls hx hb hr hml hown hT hlk hP hK hD hA hS hl
  have hl : lv_has ls 4 [(0, .ref (ad 80)), (1, .int w), (2, .int lo), (3, .int hi)] := hl
  refine lv_aload_n hx hb dX6_wouldMove_0 rfl (lv_at hl 0 rfl) ?_
  refine lv_aload_n hx hb dX6_wouldMove_1 rfl (lv_at hl 0 rfl) ?_
  refine lv_iload_n hx hb dX6_wouldMove_2 rfl (lv_at hl 1 rfl) ?_
  refine q_callIW (As := [.int w]) (r := q_b (mB w (z 0))) (w1 := mdW cA ad g z) hx hb hml hown hT hK hP hD hS hA (c_X6_isMention l D cA ad g z w (show (z 0) ≤ 16 by omega)) k_X6_isMention kl_X6_111 (q0 := 0) rfl rfl rfl ((mdW_adr _ _ _ _).trans (mdW_adr _ _ _ _).symm) hl rfl rfl (Nat.le_of_ble_eq_true rfl) ⟨⟨rfl, rfl⟩, Nat.le_of_ble_eq_true rfl, Nat.le_of_ble_eq_true rfl⟩ ⟨Nat.zero_le _, Nat.zero_le _⟩ dX6_wouldMove_3 (fun H locs hP hD hS => ?_)
  refine lv_if_ne (tgt := 13) hx hb dX6_wouldMove_6 (by decide) (fun c_6 => ?_) (fun c_6 => ?_)
  · have c_6 := q_b0n c_6
    refine lv_aload_n hx hb dX6_wouldMove_13 rfl (lv_at hl 0 rfl) ?_
    refine lv_iload_n hx hb dX6_wouldMove_14 rfl (lv_at hl 2 rfl) ?_
    refine lv_iload_n hx hb dX6_wouldMove_15 rfl (lv_at hl 3 rfl) ?_
    refine q_callIW (As := [.int lo, .int hi]) (r := q_b (iN lo (nI 0) (nI 999) && iN hi lo (nI 999))) (w1 := mdW cA ad g z) hx hb hml hown hT hK hP hD hS hA (c_X6_areYears l D cA ad g z lo hi) k_X6_areYears kl_X6_125 (q0 := 0) rfl rfl rfl ((mdW_adr _ _ _ _).trans (mdW_adr _ _ _ _).symm) hl rfl rfl (Nat.le_of_ble_eq_true rfl) ⟨⟨rfl, rfl⟩, Nat.le_of_ble_eq_true rfl, Nat.le_of_ble_eq_true rfl⟩ ⟨Nat.zero_le _, Nat.zero_le _⟩ dX6_wouldMove_16 (fun H locs hP hD hS => ?_)
    refine lv_if_ne (tgt := 26) hx hb dX6_wouldMove_19 (by decide) (fun c_19 => ?_) (fun c_19 => ?_)
    · have c_19 := q_b0n c_19
      rw [Bool.and_eq_true] at c_19; exact absurd ⟨iN_e c_19.1, iN_e c_19.2⟩ hlh
    · have c_19 := q_b0e c_19
      refine lv_iconst (v := nI 2) hx hb dX6_wouldMove_22 (by decide +kernel) ?_
      refine lv_goto (tgt := 27) hx hb dX6_wouldMove_23 (by decide) ?_
      refine q_put (ty := .int) (ws1 := mdW cA ad g (zs z 4 2)) hx hb hT hown hK hP hD hS kw_X6 tyX6_ok nmX6 0 rfl rfl 27 (by decide) kf_X6_82 rfl rfl (by decide +kernel) rfl rfl (Nat.le_of_ble_eq_true rfl) rfl dX6_wouldMove_27 (fun H locs hP hD hS => ?_)
      refine lv_aload_n hx hb dX6_wouldMove_30 rfl (lv_at hl 0 rfl) ?_
      refine q_get hx hb hT hown hK hP kw_X6 0 rfl rfl 27 (by decide) kf_X6_82 rfl (v := .int (nI 2)) rfl dX6_wouldMove_31 ?_
      refine lv_if_le (tgt := 41) hx hb dX6_wouldMove_34 (by decide) (fun c_34 => ?_) (fun c_34 => ?_)
      · have c_34 := nI_le1 (a := 2) (b := 0) (by omega) (by omega) c_34
        exfalso; omega
      · have c_34 := nI_le0 (a := 2) (b := 0) (by omega) (by omega) c_34
        refine lv_iconst (v := nI 0) hx hb dX6_wouldMove_37 (by decide +kernel) ?_
        refine lv_goto (tgt := 49) hx hb dX6_wouldMove_38 (by decide) ?_
        exact q_iret hx hb hr hlk (by rfl) hP hS dX6_wouldMove_49
  · have c_6 := q_b0e c_6
    exact absurd c_6 (mB_F hw (by omega))
