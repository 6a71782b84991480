theorem iN_t {x lo hi : Int32} (h : ¬ x < lo ∧ x ≤ hi) : iN x lo hi = true := decide_eq_true h
theorem iN_e {x lo hi : Int32} (h : iN x lo hi = true) : ¬ x < lo ∧ x ≤ hi := of_decide_eq_true h
theorem iN_n {x lo hi : Int32} (h : iN x lo hi = false) : ¬ (¬ x < lo ∧ x ≤ hi) := of_decide_eq_false h
theorem q_nimp {P : Prop} {C : Prop} (h : P) (h2 : ¬ P) : C := absurd h h2
theorem mB_nI {i n : Nat} (h : i < n) (hn : n ≤ 1000) : mB (nI i) n = true := decide_eq_true ((q_r.iff (by omega)).2 (q_r_nI h))
theorem mB_F {w : Int32} {n : Nat} (h : q_r w n) (hn : n ≤ 1000) : ¬ mB w n = false := fun z => mB_f z hn h
theorem mB_T {w : Int32} {n : Nat} (h : ¬ q_r w n) (hn : n ≤ 1000) : ¬ mB w n = true := fun z => h (mB_t z hn)
/-- two that are mentions -/
def sgn : Unit := ()
abbrev rm_X6_areYears : Room := { frames := 1, cells := 0, slots := 0, locals := 22 }
set_option maxRecDepth 100000 in
set_option maxHeartbeats 4000000 in
theorem c_X6_areYears (l : Launch) (D : va_G) (cA : ClassId) (ad : Nat → Nat) (g : Nat → Nat → Int32) (z : Nat → Nat) (lo : Int32) (hi : Int32)  : q_CI l yX6_areYears [Cond.code yX6_areYears cX6_areYears 3 (some .boolean)] rm_X6_areYears D cA [.ref (ad 80), .int lo, .int hi] (mdW cA ad g z) (q_b (iN lo (nI 0) (nI 999) && iN hi lo (nI 999))) (mdW cA ad g z) := by
  refine q_startI RX6 (by decide +kernel) rfl (Nat.le_of_ble_eq_true rfl) ?_
  intro p e s m below meth c A args H locs ls hx hb hr hml hown hT hlk hP hK hD hA hS hl
  have hl : lv_has ls 3 [(0, .ref (ad 80)), (1, .int lo), (2, .int hi)] := hl
  refine lv_iload_n hx hb dX6_areYears_0 rfl (lv_at hl 1 rfl) ?_
  refine lv_iconst (v := nI 0) hx hb dX6_areYears_1 (by decide +kernel) ?_
  refine lv_sipush (v := nI 999) hx hb dX6_areYears_2 (by decide +kernel) ?_
  refine q_callSI (As := [.int lo, .int (nI 0), .int (nI 999)]) (r := q_b (iN lo (nI 0) (nI 999))) hx hb hml hown hT hK hP hD hS hA (c_X6_isIn l D cA lo (nI 0) (nI 999)) k_X6_isIn kl_X6_89 hl rfl rfl (Nat.le_of_ble_eq_true rfl) ⟨⟨rfl, rfl⟩, Nat.le_of_ble_eq_true rfl, Nat.le_of_ble_eq_true rfl⟩ ⟨Nat.zero_le _, Nat.zero_le _⟩ dX6_areYears_5 (fun H locs hP hD hS => ?_)
  refine lv_if_eq (tgt := 26) hx hb dX6_areYears_8 (by decide) (fun c_8 => ?_) (fun c_8 => ?_)
  · have c_8 := q_b0e c_8
    refine lv_iconst (v := nI 0) hx hb dX6_areYears_26 (by decide +kernel) ?_
    exact q_zret hx hb hr hlk (Or.inl rfl) (by first | exact q_bt (by rw [c_8, c_19]; rfl) | exact q_bf (by rw [c_8]; rfl) | exact q_bf (by rw [c_8, c_19]; rfl)) hP hS dX6_areYears_27
  · have c_8 := q_b0n c_8
    refine lv_iload_n hx hb dX6_areYears_11 rfl (lv_at hl 2 rfl) ?_
    refine lv_iload_n hx hb dX6_areYears_12 rfl (lv_at hl 1 rfl) ?_
    refine lv_sipush (v := nI 999) hx hb dX6_areYears_13 (by decide +kernel) ?_
    refine q_callSI (As := [.int hi, .int lo, .int (nI 999)]) (r := q_b (iN hi lo (nI 999))) hx hb hml hown hT hK hP hD hS hA (c_X6_isIn l D cA hi lo (nI 999)) k_X6_isIn kl_X6_89 hl rfl rfl (Nat.le_of_ble_eq_true rfl) ⟨⟨rfl, rfl⟩, Nat.le_of_ble_eq_true rfl, Nat.le_of_ble_eq_true rfl⟩ ⟨Nat.zero_le _, Nat.zero_le _⟩ dX6_areYears_16 (fun H locs hP hD hS => ?_)
    refine lv_if_eq (tgt := 26) hx hb dX6_areYears_19 (by decide) (fun c_19 => ?_) (fun c_19 => ?_)
    · have c_19 := q_b0e c_19
      refine lv_iconst (v := nI 0) hx hb dX6_areYears_26 (by decide +kernel) ?_
      exact q_zret hx hb hr hlk (Or.inl rfl) (by first | exact q_bt (by rw [c_8, c_19]; rfl) | exact q_bf (by rw [c_8]; rfl) | exact q_bf (by rw [c_8, c_19]; rfl)) hP hS dX6_areYears_27
    · have c_19 := q_b0n c_19
      refine lv_iconst (v := nI 1) hx hb dX6_areYears_22 (by decide +kernel) ?_
      refine lv_goto (tgt := 27) hx hb dX6_areYears_23 (by decide) ?_
      exact q_zret hx hb hr hlk (Or.inr rfl) (by first | exact q_bt (by rw [c_8, c_19]; rfl) | exact q_bf (by rw [c_8]; rfl) | exact q_bf (by rw [c_8, c_19]; rfl)) hP hS dX6_areYears_27
abbrev rm_X6_asksTwo : Room := { frames := 2, cells := 0, slots := 0, locals := 43 }
set_option maxRecDepth 100000 in
set_option maxHeartbeats 4000000 in
theorem c_X6_asksTwo (l : Launch) (D : va_G) (cA : ClassId) (ad : Nat → Nat) (g : Nat → Nat → Int32) (z : Nat → Nat) (i : Nat) (j : Nat) (hi : i < (z 0)) (hj : j < (z 0)) (hc : (z 0) ≤ 16) (hne : ¬ i = j) : q_CI l yX6_asksTwo [Cond.code yX6_asksTwo cX6_asksTwo 3 (some .boolean)] rm_X6_asksTwo D cA [.ref (ad 80), .int (nI i), .int (nI j)] (mdW cA ad g z) (nI 1) (mdW cA ad g (zs z 4 0)) := by
  refine q_startI RX6 (by decide +kernel) rfl (Nat.le_of_ble_eq_true rfl) ?_
  intro p e s m below meth c A args H locs ls hx hb hr hml hown hT hlk hP hK hD hA hS hl
  have hl : lv_has ls 3 [(0, .ref (ad 80)), (1, .int (nI i)), (2, .int (nI j))] := hl
  refine lv_aload_n hx hb dX6_asksTwo_0 rfl (lv_at hl 0 rfl) ?_
  refine lv_aload_n hx hb dX6_asksTwo_1 rfl (lv_at hl 0 rfl) ?_
  refine lv_iload_n hx hb dX6_asksTwo_2 rfl (lv_at hl 1 rfl) ?_
  refine q_callIW (As := [.int (nI i)]) (r := q_b (mB (nI i) (z 0))) (w1 := mdW cA ad g z) hx hb hml hown hT hK hP hD hS hA (c_X6_isMention l D cA ad g z (nI i) (show (z 0) ≤ 16 by omega)) k_X6_isMention kl_X6_111 (q0 := 0) rfl rfl rfl ((mdW_adr _ _ _ _).trans (mdW_adr _ _ _ _).symm) hl rfl rfl (Nat.le_of_ble_eq_true rfl) ⟨⟨rfl, rfl⟩, Nat.le_of_ble_eq_true rfl, Nat.le_of_ble_eq_true rfl⟩ ⟨Nat.zero_le _, Nat.zero_le _⟩ dX6_asksTwo_3 (fun H locs hP hD hS => ?_)
  refine lv_if_eq (tgt := 17) hx hb dX6_asksTwo_6 (by decide) (fun c_6 => ?_) (fun c_6 => ?_)
  · have c_6 := q_b0e c_6
    exact absurd c_6 (mB_F (q_r_nI (by omega)) (by omega))
  · have c_6 := q_b0n c_6
    refine lv_aload_n hx hb dX6_asksTwo_9 rfl (lv_at hl 0 rfl) ?_
    refine lv_iload_n hx hb dX6_asksTwo_10 rfl (lv_at hl 2 rfl) ?_
    refine q_callIW (As := [.int (nI j)]) (r := q_b (mB (nI j) (z 0))) (w1 := mdW cA ad g z) hx hb hml hown hT hK hP hD hS hA (c_X6_isMention l D cA ad g z (nI j) (show (z 0) ≤ 16 by omega)) k_X6_isMention kl_X6_111 (q0 := 0) rfl rfl rfl ((mdW_adr _ _ _ _).trans (mdW_adr _ _ _ _).symm) hl rfl rfl (Nat.le_of_ble_eq_true rfl) ⟨⟨rfl, rfl⟩, Nat.le_of_ble_eq_true rfl, Nat.le_of_ble_eq_true rfl⟩ ⟨Nat.zero_le _, Nat.zero_le _⟩ dX6_asksTwo_11 (fun H locs hP hD hS => ?_)
    refine lv_if_ne (tgt := 21) hx hb dX6_asksTwo_14 (by decide) (fun c_14 => ?_) (fun c_14 => ?_)
    · have c_14 := q_b0n c_14
      refine lv_iload_n hx hb dX6_asksTwo_21 rfl (lv_at hl 1 rfl) ?_
      refine lv_iload_n hx hb dX6_asksTwo_22 rfl (lv_at hl 2 rfl) ?_
      refine lv_icmp_ne (tgt := 30) hx hb dX6_asksTwo_23 (by decide) (fun c_23 => ?_) (fun c_23 => ?_)
      · have c_23 := nI_eq0 (a := i) (b := j) (by omega) (by omega) c_23
        refine lv_iconst (v := nI 0) hx hb dX6_asksTwo_30 (by decide +kernel) ?_
        refine q_put (ty := .int) (ws1 := mdW cA ad g (zs z 4 0)) hx hb hT hown hK hP hD hS kw_X6 tyX6_ok nmX6 0 rfl rfl 27 (by decide) kf_X6_82 rfl rfl (by decide +kernel) rfl rfl (Nat.le_of_ble_eq_true rfl) rfl dX6_asksTwo_31 (fun H locs hP hD hS => ?_)
        refine lv_aload_n hx hb dX6_asksTwo_34 rfl (lv_at hl 0 rfl) ?_
        refine q_get hx hb hT hown hK hP kw_X6 0 rfl rfl 27 (by decide) kf_X6_82 rfl (v := .int (nI 0)) rfl dX6_asksTwo_35 ?_
        refine lv_if_ne (tgt := 45) hx hb dX6_asksTwo_38 (by decide) (fun c_38 => ?_) (fun c_38 => ?_)
        · have c_38 := nI_eq0 (a := 0) (b := 0) (by omega) (by omega) c_38
          exfalso; omega
        · have c_38 := nI_eq1 (a := 0) (b := 0) (by omega) (by omega) c_38
          refine lv_iconst (v := nI 1) hx hb dX6_asksTwo_41 (by decide +kernel) ?_
          refine lv_goto (tgt := 46) hx hb dX6_asksTwo_42 (by decide) ?_
          exact q_zret hx hb hr hlk (Or.inr rfl) (by rfl) hP hS dX6_asksTwo_46
      · have c_23 := nI_eq1 (a := i) (b := j) (by omega) (by omega) c_23
        exfalso; omega
    · have c_14 := q_b0e c_14
      exact absurd c_14 (mB_F (q_r_nI (by omega)) (by omega))
abbrev rm_X6_asksTwox : Room := { frames := 2, cells := 0, slots := 0, locals := 43 }
set_option maxRecDepth 100000 in
set_option maxHeartbeats 4000000 in
theorem c_X6_asksTwox (l : Launch) (D : va_G) (cA : ClassId) (ad : Nat → Nat) (g : Nat → Nat → Int32) (z : Nat → Nat) (x : Int32) (y : Int32) (hc : (z 0) ≤ 16) (h12 : ¬ (q_r x (z 0) ∧ q_r y (z 0))) : q_CI l yX6_asksTwo [Cond.code yX6_asksTwo cX6_asksTwo 3 (some .boolean)] rm_X6_asksTwox D cA [.ref (ad 80), .int x, .int y] (mdW cA ad g z) (nI 0) (mdW cA ad g (zs z 4 1)) := by
  refine q_startI RX6 (by decide +kernel) rfl (Nat.le_of_ble_eq_true rfl) ?_
  intro p e s m below meth c A args H locs ls hx hb hr hml hown hT hlk hP hK hD hA hS hl
  have hl : lv_has ls 3 [(0, .ref (ad 80)), (1, .int x), (2, .int y)] := hl
  refine lv_aload_n hx hb dX6_asksTwo_0 rfl (lv_at hl 0 rfl) ?_
  refine lv_aload_n hx hb dX6_asksTwo_1 rfl (lv_at hl 0 rfl) ?_
  refine lv_iload_n hx hb dX6_asksTwo_2 rfl (lv_at hl 1 rfl) ?_
  refine q_callIW (As := [.int x]) (r := q_b (mB x (z 0))) (w1 := mdW cA ad g z) hx hb hml hown hT hK hP hD hS hA (c_X6_isMention l D cA ad g z x (show (z 0) ≤ 16 by omega)) k_X6_isMention kl_X6_111 (q0 := 0) rfl rfl rfl ((mdW_adr _ _ _ _).trans (mdW_adr _ _ _ _).symm) hl rfl rfl (Nat.le_of_ble_eq_true rfl) ⟨⟨rfl, rfl⟩, Nat.le_of_ble_eq_true rfl, Nat.le_of_ble_eq_true rfl⟩ ⟨Nat.zero_le _, Nat.zero_le _⟩ dX6_asksTwo_3 (fun H locs hP hD hS => ?_)
  refine lv_if_eq (tgt := 17) hx hb dX6_asksTwo_6 (by decide) (fun c_6 => ?_) (fun c_6 => ?_)
  · have c_6 := q_b0e c_6
    refine lv_iconst (v := nI 1) hx hb dX6_asksTwo_17 (by decide +kernel) ?_
    refine lv_goto (tgt := 31) hx hb dX6_asksTwo_18 (by decide) ?_
    refine q_put (ty := .int) (ws1 := mdW cA ad g (zs z 4 1)) hx hb hT hown hK hP hD hS kw_X6 tyX6_ok nmX6 0 rfl rfl 27 (by decide) kf_X6_82 rfl rfl (by decide +kernel) rfl rfl (Nat.le_of_ble_eq_true rfl) rfl dX6_asksTwo_31 (fun H locs hP hD hS => ?_)
    refine lv_aload_n hx hb dX6_asksTwo_34 rfl (lv_at hl 0 rfl) ?_
    refine q_get hx hb hT hown hK hP kw_X6 0 rfl rfl 27 (by decide) kf_X6_82 rfl (v := .int (nI 1)) rfl dX6_asksTwo_35 ?_
    refine lv_if_ne (tgt := 45) hx hb dX6_asksTwo_38 (by decide) (fun c_38 => ?_) (fun c_38 => ?_)
    · have c_38 := nI_eq0 (a := 1) (b := 0) (by omega) (by omega) c_38
      refine lv_iconst (v := nI 0) hx hb dX6_asksTwo_45 (by decide +kernel) ?_
      exact q_zret hx hb hr hlk (Or.inl rfl) (by rfl) hP hS dX6_asksTwo_46
    · have c_38 := nI_eq1 (a := 1) (b := 0) (by omega) (by omega) c_38
      exfalso; omega
  · have c_6 := q_b0n c_6
    refine lv_aload_n hx hb dX6_asksTwo_9 rfl (lv_at hl 0 rfl) ?_
    refine lv_iload_n hx hb dX6_asksTwo_10 rfl (lv_at hl 2 rfl) ?_
    refine q_callIW (As := [.int y]) (r := q_b (mB y (z 0))) (w1 := mdW cA ad g z) hx hb hml hown hT hK hP hD hS hA (c_X6_isMention l D cA ad g z y (show (z 0) ≤ 16 by omega)) k_X6_isMention kl_X6_111 (q0 := 0) rfl rfl rfl ((mdW_adr _ _ _ _).trans (mdW_adr _ _ _ _).symm) hl rfl rfl (Nat.le_of_ble_eq_true rfl) ⟨⟨rfl, rfl⟩, Nat.le_of_ble_eq_true rfl, Nat.le_of_ble_eq_true rfl⟩ ⟨Nat.zero_le _, Nat.zero_le _⟩ dX6_asksTwo_11 (fun H locs hP hD hS => ?_)
    refine lv_if_ne (tgt := 21) hx hb dX6_asksTwo_14 (by decide) (fun c_14 => ?_) (fun c_14 => ?_)
    · have c_14 := q_b0n c_14
      exact absurd ⟨mB_t c_6 (by omega), mB_t c_14 (by omega)⟩ h12
    · have c_14 := q_b0e c_14
      refine lv_iconst (v := nI 1) hx hb dX6_asksTwo_17 (by decide +kernel) ?_
      refine lv_goto (tgt := 31) hx hb dX6_asksTwo_18 (by decide) ?_
      refine q_put (ty := .int) (ws1 := mdW cA ad g (zs z 4 1)) hx hb hT hown hK hP hD hS kw_X6 tyX6_ok nmX6 0 rfl rfl 27 (by decide) kf_X6_82 rfl rfl (by decide +kernel) rfl rfl (Nat.le_of_ble_eq_true rfl) rfl dX6_asksTwo_31 (fun H locs hP hD hS => ?_)
      refine lv_aload_n hx hb dX6_asksTwo_34 rfl (lv_at hl 0 rfl) ?_
      refine q_get hx hb hT hown hK hP kw_X6 0 rfl rfl 27 (by decide) kf_X6_82 rfl (v := .int (nI 1)) rfl dX6_asksTwo_35 ?_
      refine lv_if_ne (tgt := 45) hx hb dX6_asksTwo_38 (by decide) (fun c_38 => ?_) (fun c_38 => ?_)
      · have c_38 := nI_eq0 (a := 1) (b := 0) (by omega) (by omega) c_38
        refine lv_iconst (v := nI 0) hx hb dX6_asksTwo_45 (by decide +kernel) ?_
        exact q_zret hx hb hr hlk (Or.inl rfl) (by rfl) hP hS dX6_asksTwo_46
      · have c_38 := nI_eq1 (a := 1) (b := 0) (by omega) (by omega) c_38
        exfalso; omega
abbrev rm_X6_asksTwox3 : Room := { frames := 2, cells := 0, slots := 0, locals := 43 }
set_option maxRecDepth 100000 in
set_option maxHeartbeats 4000000 in
theorem c_X6_asksTwox3 (l : Launch) (D : va_G) (cA : ClassId) (ad : Nat → Nat) (g : Nat → Nat → Int32) (z : Nat → Nat) (x : Int32) (y : Int32) (hc : (z 0) ≤ 16) (h1 : q_r x (z 0)) (h2 : q_r y (z 0)) (hne : x = y) : q_CI l yX6_asksTwo [Cond.code yX6_asksTwo cX6_asksTwo 3 (some .boolean)] rm_X6_asksTwox3 D cA [.ref (ad 80), .int x, .int y] (mdW cA ad g z) (nI 0) (mdW cA ad g (zs z 4 2)) := by
  refine q_startI RX6 (by decide +kernel) rfl (Nat.le_of_ble_eq_true rfl) ?_
  intro p e s m below meth c A args H locs ls hx hb hr hml hown hT hlk hP hK hD hA hS hl
  have hl : lv_has ls 3 [(0, .ref (ad 80)), (1, .int x), (2, .int y)] := hl
  refine lv_aload_n hx hb dX6_asksTwo_0 rfl (lv_at hl 0 rfl) ?_
  refine lv_aload_n hx hb dX6_asksTwo_1 rfl (lv_at hl 0 rfl) ?_
  refine lv_iload_n hx hb dX6_asksTwo_2 rfl (lv_at hl 1 rfl) ?_
  refine q_callIW (As := [.int x]) (r := q_b (mB x (z 0))) (w1 := mdW cA ad g z) hx hb hml hown hT hK hP hD hS hA (c_X6_isMention l D cA ad g z x (show (z 0) ≤ 16 by omega)) k_X6_isMention kl_X6_111 (q0 := 0) rfl rfl rfl ((mdW_adr _ _ _ _).trans (mdW_adr _ _ _ _).symm) hl rfl rfl (Nat.le_of_ble_eq_true rfl) ⟨⟨rfl, rfl⟩, Nat.le_of_ble_eq_true rfl, Nat.le_of_ble_eq_true rfl⟩ ⟨Nat.zero_le _, Nat.zero_le _⟩ dX6_asksTwo_3 (fun H locs hP hD hS => ?_)
  refine lv_if_eq (tgt := 17) hx hb dX6_asksTwo_6 (by decide) (fun c_6 => ?_) (fun c_6 => ?_)
  · have c_6 := q_b0e c_6
    exact absurd c_6 (mB_F h1 (by omega))
  · have c_6 := q_b0n c_6
    refine lv_aload_n hx hb dX6_asksTwo_9 rfl (lv_at hl 0 rfl) ?_
    refine lv_iload_n hx hb dX6_asksTwo_10 rfl (lv_at hl 2 rfl) ?_
    refine q_callIW (As := [.int y]) (r := q_b (mB y (z 0))) (w1 := mdW cA ad g z) hx hb hml hown hT hK hP hD hS hA (c_X6_isMention l D cA ad g z y (show (z 0) ≤ 16 by omega)) k_X6_isMention kl_X6_111 (q0 := 0) rfl rfl rfl ((mdW_adr _ _ _ _).trans (mdW_adr _ _ _ _).symm) hl rfl rfl (Nat.le_of_ble_eq_true rfl) ⟨⟨rfl, rfl⟩, Nat.le_of_ble_eq_true rfl, Nat.le_of_ble_eq_true rfl⟩ ⟨Nat.zero_le _, Nat.zero_le _⟩ dX6_asksTwo_11 (fun H locs hP hD hS => ?_)
    refine lv_if_ne (tgt := 21) hx hb dX6_asksTwo_14 (by decide) (fun c_14 => ?_) (fun c_14 => ?_)
    · have c_14 := q_b0n c_14
      refine lv_iload_n hx hb dX6_asksTwo_21 rfl (lv_at hl 1 rfl) ?_
      refine lv_iload_n hx hb dX6_asksTwo_22 rfl (lv_at hl 2 rfl) ?_
      refine lv_icmp_ne (tgt := 30) hx hb dX6_asksTwo_23 (by decide) (fun c_23 => ?_) (fun c_23 => ?_)
      · exact absurd hne c_23
      · refine lv_iconst (v := nI 2) hx hb dX6_asksTwo_26 (by decide +kernel) ?_
        refine lv_goto (tgt := 31) hx hb dX6_asksTwo_27 (by decide) ?_
        refine q_put (ty := .int) (ws1 := mdW cA ad g (zs z 4 2)) hx hb hT hown hK hP hD hS kw_X6 tyX6_ok nmX6 0 rfl rfl 27 (by decide) kf_X6_82 rfl rfl (by decide +kernel) rfl rfl (Nat.le_of_ble_eq_true rfl) rfl dX6_asksTwo_31 (fun H locs hP hD hS => ?_)
        refine lv_aload_n hx hb dX6_asksTwo_34 rfl (lv_at hl 0 rfl) ?_
        refine q_get hx hb hT hown hK hP kw_X6 0 rfl rfl 27 (by decide) kf_X6_82 rfl (v := .int (nI 2)) rfl dX6_asksTwo_35 ?_
        refine lv_if_ne (tgt := 45) hx hb dX6_asksTwo_38 (by decide) (fun c_38 => ?_) (fun c_38 => ?_)
        · have c_38 := nI_eq0 (a := 2) (b := 0) (by omega) (by omega) c_38
          refine lv_iconst (v := nI 0) hx hb dX6_asksTwo_45 (by decide +kernel) ?_
          exact q_zret hx hb hr hlk (Or.inl rfl) (by rfl) hP hS dX6_asksTwo_46
        · have c_38 := nI_eq1 (a := 2) (b := 0) (by omega) (by omega) c_38
          exfalso; omega
    · have c_14 := q_b0e c_14
      exact absurd c_14 (mB_F h2 (by omega))
abbrev rm_X6_tellsYear : Room := { frames := 2, cells := 0, slots := 0, locals := 43 }
set_option maxRecDepth 100000 in
set_option maxHeartbeats 4000000 in
theorem c_X6_tellsYear (l : Launch) (D : va_G) (cA : ClassId) (ad : Nat → Nat) (g : Nat → Nat → Int32) (z : Nat → Nat) (k : Nat) (is : Bool) (hk : k < (z 0)) (hc : (z 0) ≤ 16) : q_CI l yX6_tellsYear [Cond.code yX6_tellsYear cX6_tellsYear 3 (some .int)] rm_X6_tellsYear D cA [.ref (ad 80), .int (nI k), .int (q_b is)] (mdW cA ad g z) (bif is then (g 18) k else (g 17) k) (mdW cA ad g (zs z 4 0)) := by
  refine q_startI RX6 (by decide +kernel) rfl (Nat.le_of_ble_eq_true rfl) ?_
  intro p e s m below meth c A args H locs ls hx hb hr hml hown hT hlk hP hK hD hA hS hl
  have hl : lv_has ls 3 [(0, .ref (ad 80)), (1, .int (nI k)), (2, .int (q_b is))] := hl
  have zqJ47 : ∀ (H : Heap) (locs : List Loc) (ls : Array Slot), va_P D vwCl (mdW cA ad g (zs z 4 0)) H → va_D A (mdW cA ad g (zs z 4 0)) → va_S A s.heap H locs → lv_has ls 3 [(0, .ref (ad 80)), (1, .int (nI k)), (2, .int (q_b is))] → W p l e rm_X6_tellsYear s m args below meth c H locs 0 0 (q_GI D (bif is then (g 18) k else (g 17) k) (mdW cA ad g (zs z 4 0)) A below args s) (F0 m 47 ls [.int (bif is then (g 18) k else (g 17) k)]) := by
    intro   H locs ls hP hD hS hl
    exact q_iret hx hb hr hlk (by rfl) hP hS dX6_tellsYear_47
  refine lv_aload_n hx hb dX6_tellsYear_0 rfl (lv_at hl 0 rfl) ?_
  refine lv_aload_n hx hb dX6_tellsYear_1 rfl (lv_at hl 0 rfl) ?_
  refine lv_iload_n hx hb dX6_tellsYear_2 rfl (lv_at hl 1 rfl) ?_
  refine q_callIW (As := [.int (nI k)]) (r := q_b (mB (nI k) (z 0))) (w1 := mdW cA ad g z) hx hb hml hown hT hK hP hD hS hA (c_X6_isMention l D cA ad g z (nI k) (show (z 0) ≤ 16 by omega)) k_X6_isMention kl_X6_111 (q0 := 0) rfl rfl rfl ((mdW_adr _ _ _ _).trans (mdW_adr _ _ _ _).symm) hl rfl rfl (Nat.le_of_ble_eq_true rfl) ⟨⟨rfl, rfl⟩, Nat.le_of_ble_eq_true rfl, Nat.le_of_ble_eq_true rfl⟩ ⟨Nat.zero_le _, Nat.zero_le _⟩ dX6_tellsYear_3 (fun H locs hP hD hS => ?_)
  refine lv_if_eq (tgt := 13) hx hb dX6_tellsYear_6 (by decide) (fun c_6 => ?_) (fun c_6 => ?_)
  · have c_6 := q_b0e c_6
    exact absurd c_6 (mB_F (q_r_nI (by omega)) (by omega))
  · have c_6 := q_b0n c_6
    refine lv_iconst (v := nI 0) hx hb dX6_tellsYear_9 (by decide +kernel) ?_
    refine lv_goto (tgt := 14) hx hb dX6_tellsYear_10 (by decide) ?_
    refine q_put (ty := .int) (ws1 := mdW cA ad g (zs z 4 0)) hx hb hT hown hK hP hD hS kw_X6 tyX6_ok nmX6 0 rfl rfl 27 (by decide) kf_X6_82 rfl rfl (by decide +kernel) rfl rfl (Nat.le_of_ble_eq_true rfl) rfl dX6_tellsYear_14 (fun H locs hP hD hS => ?_)
    refine lv_aload_n hx hb dX6_tellsYear_17 rfl (lv_at hl 0 rfl) ?_
    refine q_get hx hb hT hown hK hP kw_X6 0 rfl rfl 27 (by decide) kf_X6_82 rfl (v := .int (nI 0)) rfl dX6_tellsYear_18 ?_
    refine lv_if_le (tgt := 28) hx hb dX6_tellsYear_21 (by decide) (fun c_21 => ?_) (fun c_21 => ?_)
    · have c_21 := nI_le1 (a := 0) (b := 0) (by omega) (by omega) c_21
      refine lv_iload_n hx hb dX6_tellsYear_28 rfl (lv_at hl 2 rfl) ?_
      refine lv_if_eq (tgt := 41) hx hb dX6_tellsYear_29 (by decide) (fun c_29 => ?_) (fun c_29 => ?_)
      · have c_29 := q_b0e c_29
        refine lv_aload_n hx hb dX6_tellsYear_41 rfl (lv_at hl 0 rfl) ?_
        refine q_get hx hb hT hown hK hP kw_X6 0 rfl rfl 13 (by decide) kf_X6_46 rfl (v := .ref (ad 17)) rfl dX6_tellsYear_42 ?_
        refine lv_iload_n hx hb dX6_tellsYear_45 rfl (lv_at hl 1 rfl) ?_
        refine q_iald (f := g 17) hx hb hK hP 13 0 rfl rfl (k) rfl (by omega) (by omega) dX6_tellsYear_46 ?_
        refine q_top (y := (bif is then (g 18) k else (g 17) k)) (by exact q_cf c_29) ?_
        exact zqJ47   _ _ _ hP hD hS (lv_sub hl [0, 1, 2] rfl)
      · have c_29 := q_b0n c_29
        refine lv_aload_n hx hb dX6_tellsYear_32 rfl (lv_at hl 0 rfl) ?_
        refine q_get hx hb hT hown hK hP kw_X6 0 rfl rfl 14 (by decide) kf_X6_49 rfl (v := .ref (ad 18)) rfl dX6_tellsYear_33 ?_
        refine lv_iload_n hx hb dX6_tellsYear_36 rfl (lv_at hl 1 rfl) ?_
        refine q_iald (f := g 18) hx hb hK hP 14 0 rfl rfl (k) rfl (by omega) (by omega) dX6_tellsYear_37 ?_
        refine lv_goto (tgt := 47) hx hb dX6_tellsYear_38 (by decide) ?_
        refine q_top (y := (bif is then (g 18) k else (g 17) k)) (by exact q_ct c_29) ?_
        exact zqJ47   _ _ _ hP hD hS (lv_sub hl [0, 1, 2] rfl)
    · have c_21 := nI_le0 (a := 0) (b := 0) (by omega) (by omega) c_21
      exfalso; omega
abbrev rm_X6_tellsYearx : Room := { frames := 2, cells := 0, slots := 0, locals := 43 }
set_option maxRecDepth 100000 in
set_option maxHeartbeats 4000000 in
theorem c_X6_tellsYearx (l : Launch) (D : va_G) (cA : ClassId) (ad : Nat → Nat) (g : Nat → Nat → Int32) (z : Nat → Nat) (w : Int32) (is : Bool) (hw : ¬ q_r w (z 0)) (hc : (z 0) ≤ 16) : q_CI l yX6_tellsYear [Cond.code yX6_tellsYear cX6_tellsYear 3 (some .int)] rm_X6_tellsYearx D cA [.ref (ad 80), .int w, .int (q_b is)] (mdW cA ad g z) (nI 0) (mdW cA ad g (zs z 4 1)) := by
  refine q_startI RX6 (by decide +kernel) rfl (Nat.le_of_ble_eq_true rfl) ?_
  intro p e s m below meth c A args H locs ls hx hb hr hml hown hT hlk hP hK hD hA hS hl
  have hl : lv_has ls 3 [(0, .ref (ad 80)), (1, .int w), (2, .int (q_b is))] := hl
  refine lv_aload_n hx hb dX6_tellsYear_0 rfl (lv_at hl 0 rfl) ?_
  refine lv_aload_n hx hb dX6_tellsYear_1 rfl (lv_at hl 0 rfl) ?_
  refine lv_iload_n hx hb dX6_tellsYear_2 rfl (lv_at hl 1 rfl) ?_
  refine q_callIW (As := [.int w]) (r := q_b (mB w (z 0))) (w1 := mdW cA ad g z) hx hb hml hown hT hK hP hD hS hA (c_X6_isMention l D cA ad g z w (show (z 0) ≤ 16 by omega)) k_X6_isMention kl_X6_111 (q0 := 0) rfl rfl rfl ((mdW_adr _ _ _ _).trans (mdW_adr _ _ _ _).symm) hl rfl rfl (Nat.le_of_ble_eq_true rfl) ⟨⟨rfl, rfl⟩, Nat.le_of_ble_eq_true rfl, Nat.le_of_ble_eq_true rfl⟩ ⟨Nat.zero_le _, Nat.zero_le _⟩ dX6_tellsYear_3 (fun H locs hP hD hS => ?_)
  refine lv_if_eq (tgt := 13) hx hb dX6_tellsYear_6 (by decide) (fun c_6 => ?_) (fun c_6 => ?_)
  · have c_6 := q_b0e c_6
    refine lv_iconst (v := nI 1) hx hb dX6_tellsYear_13 (by decide +kernel) ?_
    refine q_put (ty := .int) (ws1 := mdW cA ad g (zs z 4 1)) hx hb hT hown hK hP hD hS kw_X6 tyX6_ok nmX6 0 rfl rfl 27 (by decide) kf_X6_82 rfl rfl (by decide +kernel) rfl rfl (Nat.le_of_ble_eq_true rfl) rfl dX6_tellsYear_14 (fun H locs hP hD hS => ?_)
    refine lv_aload_n hx hb dX6_tellsYear_17 rfl (lv_at hl 0 rfl) ?_
    refine q_get hx hb hT hown hK hP kw_X6 0 rfl rfl 27 (by decide) kf_X6_82 rfl (v := .int (nI 1)) rfl dX6_tellsYear_18 ?_
    refine lv_if_le (tgt := 28) hx hb dX6_tellsYear_21 (by decide) (fun c_21 => ?_) (fun c_21 => ?_)
    · have c_21 := nI_le1 (a := 1) (b := 0) (by omega) (by omega) c_21
      exfalso; omega
    · have c_21 := nI_le0 (a := 1) (b := 0) (by omega) (by omega) c_21
      refine lv_iconst (v := nI 0) hx hb dX6_tellsYear_24 (by decide +kernel) ?_
      refine lv_goto (tgt := 47) hx hb dX6_tellsYear_25 (by decide) ?_
      exact q_iret hx hb hr hlk (by rfl) hP hS dX6_tellsYear_47
  · have c_6 := q_b0n c_6
    exact absurd c_6 (mB_T hw (by omega))
abbrev rm_X6_year : Room := { frames := 3, cells := 0, slots := 0, locals := 65 }
set_option maxRecDepth 100000 in
set_option maxHeartbeats 4000000 in
theorem c_X6_year (l : Launch) (D : va_G) (cA : ClassId) (ad : Nat → Nat) (g : Nat → Nat → Int32) (z : Nat → Nat) (k : Nat) (is : Bool) (hk : k < (z 0)) (hc : (z 0) ≤ 16) : q_CI l yX6_year [Cond.code yX6_year cX6_year 3 (some .int)] rm_X6_year D cA [.ref (ad 80), .int (nI k), .int (q_b is)] (mdW cA ad g z) (bif is then (g 18) k else (g 17) k) (mdW cA ad g (zs z 4 0)) := by
  refine q_startI RX6 (by decide +kernel) rfl (Nat.le_of_ble_eq_true rfl) ?_
  intro p e s m below meth c A args H locs ls hx hb hr hml hown hT hlk hP hK hD hA hS hl
  have hl : lv_has ls 3 [(0, .ref (ad 80)), (1, .int (nI k)), (2, .int (q_b is))] := hl
  refine lv_aload_n hx hb dX6_year_0 rfl (lv_at hl 0 rfl) ?_
  refine lv_iload_n hx hb dX6_year_1 rfl (lv_at hl 1 rfl) ?_
  refine lv_iload_n hx hb dX6_year_2 rfl (lv_at hl 2 rfl) ?_
  refine q_callIW (As := [.int (nI k), .int (q_b is)]) (r := (bif is then (g 18) k else (g 17) k)) (w1 := mdW cA ad g (zs z 4 0)) hx hb hml hown hT hK hP hD hS hA (c_X6_tellsYear l D cA ad g z k is (show k < (z 0) by omega) (show (z 0) ≤ 16 by omega)) k_X6_tellsYear kl_X6_132 (q0 := 0) rfl rfl rfl ((mdW_adr _ _ _ _).trans (mdW_adr _ _ _ _).symm) hl rfl rfl (Nat.le_of_ble_eq_true rfl) ⟨⟨rfl, rfl⟩, Nat.le_of_ble_eq_true rfl, Nat.le_of_ble_eq_true rfl⟩ ⟨Nat.zero_le _, Nat.zero_le _⟩ dX6_year_3 (fun H locs hP hD hS => ?_)
  exact q_iret hx hb hr hlk (by rfl) hP hS dX6_year_6
abbrev rm_X6_yearx : Room := { frames := 3, cells := 0, slots := 0, locals := 65 }
set_option maxRecDepth 100000 in
set_option maxHeartbeats 4000000 in
theorem c_X6_yearx (l : Launch) (D : va_G) (cA : ClassId) (ad : Nat → Nat) (g : Nat → Nat → Int32) (z : Nat → Nat) (w : Int32) (is : Bool) (hw : ¬ q_r w (z 0)) (hc : (z 0) ≤ 16) : q_CI l yX6_year [Cond.code yX6_year cX6_year 3 (some .int)] rm_X6_yearx D cA [.ref (ad 80), .int w, .int (q_b is)] (mdW cA ad g z) (nI 0) (mdW cA ad g (zs z 4 1)) := by
  refine q_startI RX6 (by decide +kernel) rfl (Nat.le_of_ble_eq_true rfl) ?_
  intro p e s m below meth c A args H locs ls hx hb hr hml hown hT hlk hP hK hD hA hS hl
  have hl : lv_has ls 3 [(0, .ref (ad 80)), (1, .int w), (2, .int (q_b is))] := hl
  refine lv_aload_n hx hb dX6_year_0 rfl (lv_at hl 0 rfl) ?_
  refine lv_iload_n hx hb dX6_year_1 rfl (lv_at hl 1 rfl) ?_
  refine lv_iload_n hx hb dX6_year_2 rfl (lv_at hl 2 rfl) ?_
  refine q_callIW (As := [.int w, .int (q_b is)]) (r := nI 0) (w1 := mdW cA ad g (zs z 4 1)) hx hb hml hown hT hK hP hD hS hA (c_X6_tellsYearx l D cA ad g z w is hw (show (z 0) ≤ 16 by omega)) k_X6_tellsYear kl_X6_132 (q0 := 0) rfl rfl rfl ((mdW_adr _ _ _ _).trans (mdW_adr _ _ _ _).symm) hl rfl rfl (Nat.le_of_ble_eq_true rfl) ⟨⟨rfl, rfl⟩, Nat.le_of_ble_eq_true rfl, Nat.le_of_ble_eq_true rfl⟩ ⟨Nat.zero_le _, Nat.zero_le _⟩ dX6_year_3 (fun H locs hP hD hS => ?_)
  exact q_iret hx hb hr hlk (by rfl) hP hS dX6_year_6
abbrev rm_X6_yearAnew : Room := { frames := 3, cells := 0, slots := 0, locals := 65 }
set_option maxRecDepth 100000 in
set_option maxHeartbeats 4000000 in
theorem c_X6_yearAnew (l : Launch) (D : va_G) (cA : ClassId) (ad : Nat → Nat) (g : Nat → Nat → Int32) (z : Nat → Nat) (k : Nat) (is : Bool) (hk : k < (z 0)) (hc : (z 0) ≤ 16) : q_CI l yX6_yearAnew [Cond.code yX6_yearAnew cX6_yearAnew 3 (some .int)] rm_X6_yearAnew D cA [.ref (ad 80), .int (nI k), .int (q_b is)] (mdW cA ad g z) (bif is then (g 18) k else (g 17) k) (mdW cA ad g (zs z 4 0)) := by
  refine q_startI RX6 (by decide +kernel) rfl (Nat.le_of_ble_eq_true rfl) ?_
  intro p e s m below meth c A args H locs ls hx hb hr hml hown hT hlk hP hK hD hA hS hl
  have hl : lv_has ls 3 [(0, .ref (ad 80)), (1, .int (nI k)), (2, .int (q_b is))] := hl
  refine lv_aload_n hx hb dX6_yearAnew_0 rfl (lv_at hl 0 rfl) ?_
  refine lv_iload_n hx hb dX6_yearAnew_1 rfl (lv_at hl 1 rfl) ?_
  refine lv_iload_n hx hb dX6_yearAnew_2 rfl (lv_at hl 2 rfl) ?_
  refine q_callIW (As := [.int (nI k), .int (q_b is)]) (r := (bif is then (g 18) k else (g 17) k)) (w1 := mdW cA ad g (zs z 4 0)) hx hb hml hown hT hK hP hD hS hA (c_X6_tellsYear l D cA ad g z k is (show k < (z 0) by omega) (show (z 0) ≤ 16 by omega)) k_X6_tellsYear kl_X6_132 (q0 := 0) rfl rfl rfl ((mdW_adr _ _ _ _).trans (mdW_adr _ _ _ _).symm) hl rfl rfl (Nat.le_of_ble_eq_true rfl) ⟨⟨rfl, rfl⟩, Nat.le_of_ble_eq_true rfl, Nat.le_of_ble_eq_true rfl⟩ ⟨Nat.zero_le _, Nat.zero_le _⟩ dX6_yearAnew_3 (fun H locs hP hD hS => ?_)
  exact q_iret hx hb hr hlk (by rfl) hP hS dX6_yearAnew_6
abbrev rm_X6_yearAnewx : Room := { frames := 3, cells := 0, slots := 0, locals := 65 }
set_option maxRecDepth 100000 in
set_option maxHeartbeats 4000000 in
theorem c_X6_yearAnewx (l : Launch) (D : va_G) (cA : ClassId) (ad : Nat → Nat) (g : Nat → Nat → Int32) (z : Nat → Nat) (w : Int32) (is : Bool) (hw : ¬ q_r w (z 0)) (hc : (z 0) ≤ 16) : q_CI l yX6_yearAnew [Cond.code yX6_yearAnew cX6_yearAnew 3 (some .int)] rm_X6_yearAnewx D cA [.ref (ad 80), .int w, .int (q_b is)] (mdW cA ad g z) (nI 0) (mdW cA ad g (zs z 4 1)) := by
  refine q_startI RX6 (by decide +kernel) rfl (Nat.le_of_ble_eq_true rfl) ?_
  intro p e s m below meth c A args H locs ls hx hb hr hml hown hT hlk hP hK hD hA hS hl
  have hl : lv_has ls 3 [(0, .ref (ad 80)), (1, .int w), (2, .int (q_b is))] := hl
  refine lv_aload_n hx hb dX6_yearAnew_0 rfl (lv_at hl 0 rfl) ?_
  refine lv_iload_n hx hb dX6_yearAnew_1 rfl (lv_at hl 1 rfl) ?_
  refine lv_iload_n hx hb dX6_yearAnew_2 rfl (lv_at hl 2 rfl) ?_
  refine q_callIW (As := [.int w, .int (q_b is)]) (r := nI 0) (w1 := mdW cA ad g (zs z 4 1)) hx hb hml hown hT hK hP hD hS hA (c_X6_tellsYearx l D cA ad g z w is hw (show (z 0) ≤ 16 by omega)) k_X6_tellsYear kl_X6_132 (q0 := 0) rfl rfl rfl ((mdW_adr _ _ _ _).trans (mdW_adr _ _ _ _).symm) hl rfl rfl (Nat.le_of_ble_eq_true rfl) ⟨⟨rfl, rfl⟩, Nat.le_of_ble_eq_true rfl, Nat.le_of_ble_eq_true rfl⟩ ⟨Nat.zero_le _, Nat.zero_le _⟩ dX6_yearAnew_3 (fun H locs hP hD hS => ?_)
  exact q_iret hx hb hr hlk (by rfl) hP hS dX6_yearAnew_6
abbrev rm_X6_findsT1 : Room := { frames := 1, cells := 0, slots := 0, locals := 25 }
set_option maxRecDepth 100000 in
set_option maxHeartbeats 4000000 in
theorem c_X6_findsT1 (l : Launch) (D : va_G) (cA : ClassId) (ad : Nat → Nat) (g : Nat → Nat → Int32) (z : Nat → Nat) (k : Nat) (lo : Int32) (hi : Int32) (u0 : Nat) (hk : k < (z 0)) (hc : (z 0) ≤ 16) (hE : ∀ k, k < (z 1) → q_r ((g 14) k) 16 ∧ q_r ((g 15) k) 16) (ht : (z 1) ≤ 40) (hst : dtH u0 (g 14) (g 15) (g 16) (upd (g 12) k (mx ((g 12) k) lo)) (upd (g 13) k (mn ((g 13) k) hi)) (g 19) (g 20) (z 1) (z 0)) (hd9 : (dtD u0 (g 14) (g 15) (g 16) (upd (g 12) k (mx ((g 12) k) lo)) (upd (g 13) k (mn ((g 13) k) hi)) (g 19) (g 20) (z 1) (z 0)).2.2.1 = true) : q_CI l yX6_finds [Cond.code yX6_finds cX6_finds 8 (some .int)] rm_X6_findsT1 D cA [.ref (ad 80), .int (nI k), .int lo, .int hi, .int (nI 1)] (mdW cA ad g z) (nI (mvd (dtD u0 (g 14) (g 15) (g 16) (upd (g 12) k (mx ((g 12) k) lo)) (upd (g 13) k (mn ((g 13) k) hi)) (g 19) (g 20) (z 1) (z 0)).1 (dtD u0 (g 14) (g 15) (g 16) (upd (g 12) k (mx ((g 12) k) lo)) (upd (g 13) k (mn ((g 13) k) hi)) (g 19) (g 20) (z 1) (z 0)).2.1 (g 17) (g 18) (z 0))) (mdW cA ad (gs (gs (gs (gs (gs (gs g 12 (upd (g 12) k (mx ((g 12) k) lo))) 13 (upd (g 13) k (mn ((g 13) k) hi))) 17 (copyTo (g 17) (dtD u0 (g 14) (g 15) (g 16) (upd (g 12) k (mx ((g 12) k) lo)) (upd (g 13) k (mn ((g 13) k) hi)) (g 19) (g 20) (z 1) (z 0)).1 (z 0))) 18 (copyTo (g 18) (dtD u0 (g 14) (g 15) (g 16) (upd (g 12) k (mx ((g 12) k) lo)) (upd (g 13) k (mn ((g 13) k) hi)) (g 19) (g 20) (z 1) (z 0)).2.1 (z 0))) 19 ((dtD u0 (g 14) (g 15) (g 16) (upd (g 12) k (mx ((g 12) k) lo)) (upd (g 13) k (mn ((g 13) k) hi)) (g 19) (g 20) (z 1) (z 0)).1)) 20 ((dtD u0 (g 14) (g 15) (g 16) (upd (g 12) k (mx ((g 12) k) lo)) (upd (g 13) k (mn ((g 13) k) hi)) (g 19) (g 20) (z 1) (z 0)).2.1)) z) := by
  refine q_startI RX6 (by decide +kernel) rfl (Nat.le_of_ble_eq_true rfl) ?_
  intro p e s m below meth c A args H locs ls hx hb hr hml hown hT hlk hP hK hD hA hS hl
  have hl : lv_has ls 8 [(0, .ref (ad 80)), (1, .int (nI k)), (2, .int lo), (3, .int hi), (4, .int (nI 1))] := hl
  have zqJ51 : ∀ (H : Heap) (locs : List Loc) (ls : Array Slot), va_P D vwCl (mdW cA ad (gs g 12 (upd (g 12) k (mx ((g 12) k) lo))) z) H → va_D A (mdW cA ad (gs g 12 (upd (g 12) k (mx ((g 12) k) lo))) z) → va_S A s.heap H locs → lv_has ls 8 [(0, .ref (ad 80)), (1, .int (nI k)), (2, .int lo), (3, .int hi), (4, .int (nI 1)), (5, .int (g 12 k)), (6, .int (g 13 k))] → W p l e rm_X6_findsT1 s m args below meth c H locs 0 0 (q_GI D (nI (mvd (dtD u0 (g 14) (g 15) (g 16) (upd (g 12) k (mx ((g 12) k) lo)) (upd (g 13) k (mn ((g 13) k) hi)) (g 19) (g 20) (z 1) (z 0)).1 (dtD u0 (g 14) (g 15) (g 16) (upd (g 12) k (mx ((g 12) k) lo)) (upd (g 13) k (mn ((g 13) k) hi)) (g 19) (g 20) (z 1) (z 0)).2.1 (g 17) (g 18) (z 0))) (mdW cA ad (gs (gs (gs (gs (gs (gs g 12 (upd (g 12) k (mx ((g 12) k) lo))) 13 (upd (g 13) k (mn ((g 13) k) hi))) 17 (copyTo (g 17) (dtD u0 (g 14) (g 15) (g 16) (upd (g 12) k (mx ((g 12) k) lo)) (upd (g 13) k (mn ((g 13) k) hi)) (g 19) (g 20) (z 1) (z 0)).1 (z 0))) 18 (copyTo (g 18) (dtD u0 (g 14) (g 15) (g 16) (upd (g 12) k (mx ((g 12) k) lo)) (upd (g 13) k (mn ((g 13) k) hi)) (g 19) (g 20) (z 1) (z 0)).2.1 (z 0))) 19 ((dtD u0 (g 14) (g 15) (g 16) (upd (g 12) k (mx ((g 12) k) lo)) (upd (g 13) k (mn ((g 13) k) hi)) (g 19) (g 20) (z 1) (z 0)).1)) 20 ((dtD u0 (g 14) (g 15) (g 16) (upd (g 12) k (mx ((g 12) k) lo)) (upd (g 13) k (mn ((g 13) k) hi)) (g 19) (g 20) (z 1) (z 0)).2.1)) z) A below args s) (F0 m 51 ls [.int (mn (g 13 k) hi), .int (nI k), .ref (ad 13)]) := by
    intro   H locs ls hP hD hS hl
    refine q_iast (f := g 13) (ws1 := mdW cA ad (gs (gs g 12 (upd (g 12) k (mx ((g 12) k) lo))) 13 (upd (g 13) k (mn (g 13 k) hi))) z) hx hb hK hP hD hS 12 0 rfl rfl (k) rfl (by omega) (by omega) rfl dX6_finds_51 (fun H locs hP hD hS => ?_)
    refine lv_aload_n hx hb dX6_finds_52 rfl (lv_at hl 0 rfl) ?_
    refine q_callIW (As := []) (r := q_b ((dtD u0 (g 14) (g 15) (g 16) (upd (g 12) k (mx ((g 12) k) lo)) (upd (g 13) k (mn (g 13 k) hi)) (g 19) (g 20) (z 1) (z 0)).2.2.1)) (w1 := mdW cA ad (gs (gs (gs (gs g 12 (upd (g 12) k (mx ((g 12) k) lo))) 13 (upd (g 13) k (mn (g 13 k) hi))) 19 ((dtD u0 (g 14) (g 15) (g 16) (upd (g 12) k (mx ((g 12) k) lo)) (upd (g 13) k (mn (g 13 k) hi)) (g 19) (g 20) (z 1) (z 0)).1)) 20 ((dtD u0 (g 14) (g 15) (g 16) (upd (g 12) k (mx ((g 12) k) lo)) (upd (g 13) k (mn (g 13 k) hi)) (g 19) (g 20) (z 1) (z 0)).2.1)) z) hx hb hml hown hT hK hP hD hS hA (c_X6_dates l D cA ad (gs (gs g 12 (upd (g 12) k (mx ((g 12) k) lo))) 13 (upd (g 13) k (mn (g 13 k) hi))) z u0 (show (z 0) ≤ 16 by omega) hE (show (z 1) ≤ 40 by omega) hst) k_X6_dates kl_X6_114 (q0 := 0) rfl rfl rfl ((mdW_adr _ _ _ _).trans (mdW_adr _ _ _ _).symm) hl rfl rfl (Nat.le_of_ble_eq_true rfl) ⟨⟨rfl, rfl⟩, Nat.le_of_ble_eq_true rfl, Nat.le_of_ble_eq_true rfl⟩ ⟨Nat.zero_le _, Nat.zero_le _⟩ dX6_finds_53 (fun H locs hP hD hS => ?_)
    refine lv_if_eq (tgt := 66) hx hb dX6_finds_56 (by decide) (fun c_56 => ?_) (fun c_56 => ?_)
    · have c_56 := q_b0e c_56
      exact absurd (c_56.symm.trans hd9) (by decide)
    · have c_56 := q_b0n c_56
      refine lv_aload_n hx hb dX6_finds_59 rfl (lv_at hl 0 rfl) ?_
      refine q_callIW (As := []) (r := nI (mvd ((dtD u0 (g 14) (g 15) (g 16) (upd (g 12) k (mx ((g 12) k) lo)) (upd (g 13) k (mn (g 13 k) hi)) (g 19) (g 20) (z 1) (z 0)).1) ((dtD u0 (g 14) (g 15) (g 16) (upd (g 12) k (mx ((g 12) k) lo)) (upd (g 13) k (mn (g 13 k) hi)) (g 19) (g 20) (z 1) (z 0)).2.1) (g 17) (g 18) (z 0))) (w1 := mdW cA ad (gs (gs (gs (gs g 12 (upd (g 12) k (mx ((g 12) k) lo))) 13 (upd (g 13) k (mn (g 13 k) hi))) 19 ((dtD u0 (g 14) (g 15) (g 16) (upd (g 12) k (mx ((g 12) k) lo)) (upd (g 13) k (mn (g 13 k) hi)) (g 19) (g 20) (z 1) (z 0)).1)) 20 ((dtD u0 (g 14) (g 15) (g 16) (upd (g 12) k (mx ((g 12) k) lo)) (upd (g 13) k (mn (g 13 k) hi)) (g 19) (g 20) (z 1) (z 0)).2.1)) z) hx hb hml hown hT hK hP hD hS hA (c_X6_moves l D cA ad (gs (gs (gs (gs g 12 (upd (g 12) k (mx ((g 12) k) lo))) 13 (upd (g 13) k (mn (g 13 k) hi))) 19 ((dtD u0 (g 14) (g 15) (g 16) (upd (g 12) k (mx ((g 12) k) lo)) (upd (g 13) k (mn (g 13 k) hi)) (g 19) (g 20) (z 1) (z 0)).1)) 20 ((dtD u0 (g 14) (g 15) (g 16) (upd (g 12) k (mx ((g 12) k) lo)) (upd (g 13) k (mn (g 13 k) hi)) (g 19) (g 20) (z 1) (z 0)).2.1)) z (show (z 0) ≤ 16 by omega)) k_X6_moves kl_X6_118 (q0 := 0) rfl rfl rfl ((mdW_adr _ _ _ _).trans (mdW_adr _ _ _ _).symm) hl rfl rfl (Nat.le_of_ble_eq_true rfl) ⟨⟨rfl, rfl⟩, Nat.le_of_ble_eq_true rfl, Nat.le_of_ble_eq_true rfl⟩ ⟨Nat.zero_le _, Nat.zero_le _⟩ dX6_finds_60 (fun H locs hP hD hS => ?_)
      refine lv_goto (tgt := 67) hx hb dX6_finds_63 (by decide) ?_
      refine lv_istore (lv' := [(7, .int (nI (mvd ((dtD u0 (g 14) (g 15) (g 16) (upd (g 12) k (mx ((g 12) k) lo)) (upd (g 13) k (mn (g 13 k) hi)) (g 19) (g 20) (z 1) (z 0)).1) ((dtD u0 (g 14) (g 15) (g 16) (upd (g 12) k (mx ((g 12) k) lo)) (upd (g 13) k (mn (g 13 k) hi)) (g 19) (g 20) (z 1) (z 0)).2.1) (g 17) (g 18) (z 0)))), (0, .ref (ad 80)), (1, .int (nI k)), (2, .int lo), (3, .int hi), (4, .int (nI 1)), (5, .int (g 12 k)), (6, .int (g 13 k))]) hx hb dX6_finds_67 hl (by decide) rfl (fun ls hl => ?_)
      refine lv_iload hx hb dX6_finds_69 (lv_at hl 5 rfl) ?_
      refine lv_if_eq (tgt := 87) hx hb dX6_finds_71 (by decide) (fun c_71 => ?_) (fun c_71 => ?_)
      · have c_71 := nI_eq1 (a := 1) (b := 0) (by omega) (by omega) c_71
        exfalso; omega
      · have c_71 := nI_eq0 (a := 1) (b := 0) (by omega) (by omega) c_71
        refine lv_iload hx hb dX6_finds_74 (lv_at hl 0 rfl) ?_
        refine lv_iconst (v := (-1)) hx hb dX6_finds_76 (by decide +kernel) ?_
        refine lv_icmp_eq (tgt := 87) hx hb dX6_finds_77 (by decide) (fun c_77 => ?_) (fun c_77 => ?_)
        · exact absurd c_77 (q_nIne (Nat.le_trans (mvd_le _ _ _ _ _) hc))
        · refine lv_aload_n hx hb dX6_finds_80 rfl (lv_at hl 1 rfl) ?_
          refine q_callVW (As := []) (w1 := mdW cA ad (gs (gs (gs (gs (gs (gs g 12 (upd (g 12) k (mx ((g 12) k) lo))) 13 (upd (g 13) k (mn (g 13 k) hi))) 17 (copyTo (g 17) ((dtD u0 (g 14) (g 15) (g 16) (upd (g 12) k (mx ((g 12) k) lo)) (upd (g 13) k (mn (g 13 k) hi)) (g 19) (g 20) (z 1) (z 0)).1) (z 0))) 18 (copyTo (g 18) ((dtD u0 (g 14) (g 15) (g 16) (upd (g 12) k (mx ((g 12) k) lo)) (upd (g 13) k (mn (g 13 k) hi)) (g 19) (g 20) (z 1) (z 0)).2.1) (z 0))) 19 ((dtD u0 (g 14) (g 15) (g 16) (upd (g 12) k (mx ((g 12) k) lo)) (upd (g 13) k (mn (g 13 k) hi)) (g 19) (g 20) (z 1) (z 0)).1)) 20 ((dtD u0 (g 14) (g 15) (g 16) (upd (g 12) k (mx ((g 12) k) lo)) (upd (g 13) k (mn (g 13 k) hi)) (g 19) (g 20) (z 1) (z 0)).2.1)) z) hx hb hml hown hT hK hP hD hS hA (c_X6_keeps l D cA ad (gs (gs (gs (gs g 12 (upd (g 12) k (mx ((g 12) k) lo))) 13 (upd (g 13) k (mn (g 13 k) hi))) 19 ((dtD u0 (g 14) (g 15) (g 16) (upd (g 12) k (mx ((g 12) k) lo)) (upd (g 13) k (mn (g 13 k) hi)) (g 19) (g 20) (z 1) (z 0)).1)) 20 ((dtD u0 (g 14) (g 15) (g 16) (upd (g 12) k (mx ((g 12) k) lo)) (upd (g 13) k (mn (g 13 k) hi)) (g 19) (g 20) (z 1) (z 0)).2.1)) z (show (z 0) ≤ 16 by omega)) k_X6_keeps kl_X6_122 (q0 := 0) rfl rfl rfl ((mdW_adr _ _ _ _).trans (mdW_adr _ _ _ _).symm) hl rfl rfl (Nat.le_of_ble_eq_true rfl) ⟨⟨rfl, rfl⟩, Nat.le_of_ble_eq_true rfl, Nat.le_of_ble_eq_true rfl⟩ ⟨Nat.zero_le _, Nat.zero_le _⟩ dX6_finds_81 (fun H locs hP hD hS => ?_)
          refine lv_goto (tgt := 103) hx hb dX6_finds_84 (by decide) ?_
          refine lv_iload hx hb dX6_finds_103 (lv_at hl 0 rfl) ?_
          exact q_iret hx hb hr hlk (by rfl) (va_cast' hP (by rfl)) hS dX6_finds_105
  have zqJ33 : ∀ (H : Heap) (locs : List Loc) (ls : Array Slot), va_P D vwCl (mdW cA ad g z) H → va_D A (mdW cA ad g z) → va_S A s.heap H locs → lv_has ls 8 [(0, .ref (ad 80)), (1, .int (nI k)), (2, .int lo), (3, .int hi), (4, .int (nI 1)), (5, .int (g 12 k)), (6, .int (g 13 k))] → W p l e rm_X6_findsT1 s m args below meth c H locs 0 0 (q_GI D (nI (mvd (dtD u0 (g 14) (g 15) (g 16) (upd (g 12) k (mx ((g 12) k) lo)) (upd (g 13) k (mn ((g 13) k) hi)) (g 19) (g 20) (z 1) (z 0)).1 (dtD u0 (g 14) (g 15) (g 16) (upd (g 12) k (mx ((g 12) k) lo)) (upd (g 13) k (mn ((g 13) k) hi)) (g 19) (g 20) (z 1) (z 0)).2.1 (g 17) (g 18) (z 0))) (mdW cA ad (gs (gs (gs (gs (gs (gs g 12 (upd (g 12) k (mx ((g 12) k) lo))) 13 (upd (g 13) k (mn ((g 13) k) hi))) 17 (copyTo (g 17) (dtD u0 (g 14) (g 15) (g 16) (upd (g 12) k (mx ((g 12) k) lo)) (upd (g 13) k (mn ((g 13) k) hi)) (g 19) (g 20) (z 1) (z 0)).1 (z 0))) 18 (copyTo (g 18) (dtD u0 (g 14) (g 15) (g 16) (upd (g 12) k (mx ((g 12) k) lo)) (upd (g 13) k (mn ((g 13) k) hi)) (g 19) (g 20) (z 1) (z 0)).2.1 (z 0))) 19 ((dtD u0 (g 14) (g 15) (g 16) (upd (g 12) k (mx ((g 12) k) lo)) (upd (g 13) k (mn ((g 13) k) hi)) (g 19) (g 20) (z 1) (z 0)).1)) 20 ((dtD u0 (g 14) (g 15) (g 16) (upd (g 12) k (mx ((g 12) k) lo)) (upd (g 13) k (mn ((g 13) k) hi)) (g 19) (g 20) (z 1) (z 0)).2.1)) z) A below args s) (F0 m 33 ls [.int (mx (g 12 k) lo), .int (nI k), .ref (ad 12)]) := by
    intro   H locs ls hP hD hS hl
    refine q_iast (f := g 12) (ws1 := mdW cA ad (gs g 12 (upd (g 12) k (mx (g 12 k) lo))) z) hx hb hK hP hD hS 11 0 rfl rfl (k) rfl (by omega) (by omega) rfl dX6_finds_33 (fun H locs hP hD hS => ?_)
    refine lv_aload_n hx hb dX6_finds_34 rfl (lv_at hl 0 rfl) ?_
    refine q_get hx hb hT hown hK hP kw_X6 0 rfl rfl 12 (by decide) kf_X6_43 rfl (v := .ref (ad 13)) rfl dX6_finds_35 ?_
    refine lv_iload_n hx hb dX6_finds_38 rfl (lv_at hl 1 rfl) ?_
    refine lv_iload_n hx hb dX6_finds_39 rfl (lv_at hl 3 rfl) ?_
    refine lv_iload hx hb dX6_finds_40 (lv_at hl 6 rfl) ?_
    refine lv_icmp_ge (tgt := 49) hx hb dX6_finds_42 (by decide) (fun c_42 => ?_) (fun c_42 => ?_)
    · refine lv_iload hx hb dX6_finds_49 (lv_at hl 6 rfl) ?_
      refine q_top (y := mn (g 13 k) hi) (by first | exact mn_t c_42 | exact mn_f c_42) ?_
      exact zqJ51   _ _ _ hP hD hS (lv_sub hl [0, 1, 2, 3, 4, 5, 6] rfl)
    · refine lv_iload_n hx hb dX6_finds_45 rfl (lv_at hl 3 rfl) ?_
      refine lv_goto (tgt := 51) hx hb dX6_finds_46 (by decide) ?_
      refine q_top (y := mn (g 13 k) hi) (by first | exact mn_t c_42 | exact mn_f c_42) ?_
      exact zqJ51   _ _ _ hP hD hS (lv_sub hl [0, 1, 2, 3, 4, 5, 6] rfl)
  refine lv_aload_n hx hb dX6_finds_0 rfl (lv_at hl 0 rfl) ?_
  refine q_get hx hb hT hown hK hP kw_X6 0 rfl rfl 11 (by decide) kf_X6_40 rfl (v := .ref (ad 12)) rfl dX6_finds_1 ?_
  refine lv_iload_n hx hb dX6_finds_4 rfl (lv_at hl 1 rfl) ?_
  refine q_iald (f := g 12) hx hb hK hP 11 0 rfl rfl (k) rfl (by omega) (by omega) dX6_finds_5 ?_
  refine lv_istore (lv' := [(5, .int (g 12 k)), (0, .ref (ad 80)), (1, .int (nI k)), (2, .int lo), (3, .int hi), (4, .int (nI 1))]) hx hb dX6_finds_6 hl (by decide) rfl (fun ls hl => ?_)
  refine lv_aload_n hx hb dX6_finds_8 rfl (lv_at hl 1 rfl) ?_
  refine q_get hx hb hT hown hK hP kw_X6 0 rfl rfl 12 (by decide) kf_X6_43 rfl (v := .ref (ad 13)) rfl dX6_finds_9 ?_
  refine lv_iload_n hx hb dX6_finds_12 rfl (lv_at hl 2 rfl) ?_
  refine q_iald (f := g 13) hx hb hK hP 12 0 rfl rfl (k) rfl (by omega) (by omega) dX6_finds_13 ?_
  refine lv_istore (lv' := [(6, .int (g 13 k)), (5, .int (g 12 k)), (0, .ref (ad 80)), (1, .int (nI k)), (2, .int lo), (3, .int hi), (4, .int (nI 1))]) hx hb dX6_finds_14 hl (by decide) rfl (fun ls hl => ?_)
  refine lv_aload_n hx hb dX6_finds_16 rfl (lv_at hl 2 rfl) ?_
  refine q_get hx hb hT hown hK hP kw_X6 0 rfl rfl 11 (by decide) kf_X6_40 rfl (v := .ref (ad 12)) rfl dX6_finds_17 ?_
  refine lv_iload_n hx hb dX6_finds_20 rfl (lv_at hl 3 rfl) ?_
  refine lv_iload_n hx hb dX6_finds_21 rfl (lv_at hl 4 rfl) ?_
  refine lv_iload hx hb dX6_finds_22 (lv_at hl 1 rfl) ?_
  refine lv_icmp_le (tgt := 31) hx hb dX6_finds_24 (by decide) (fun c_24 => ?_) (fun c_24 => ?_)
  · refine lv_iload hx hb dX6_finds_31 (lv_at hl 1 rfl) ?_
    refine q_top (y := mx (g 12 k) lo) (by first | exact mx_t c_24 | exact mx_f c_24) ?_
    exact zqJ33   _ _ _ hP hD hS (lv_sub hl [2, 3, 4, 5, 6, 1, 0] rfl)
  · refine lv_iload_n hx hb dX6_finds_27 rfl (lv_at hl 4 rfl) ?_
    refine lv_goto (tgt := 33) hx hb dX6_finds_28 (by decide) ?_
    refine q_top (y := mx (g 12 k) lo) (by first | exact mx_t c_24 | exact mx_f c_24) ?_
    exact zqJ33   _ _ _ hP hD hS (lv_sub hl [2, 3, 4, 5, 6, 1, 0] rfl)
abbrev rm_X6_findsT0 : Room := { frames := 1, cells := 0, slots := 0, locals := 25 }
set_option maxRecDepth 100000 in
set_option maxHeartbeats 4000000 in
theorem c_X6_findsT0 (l : Launch) (D : va_G) (cA : ClassId) (ad : Nat → Nat) (g : Nat → Nat → Int32) (z : Nat → Nat) (k : Nat) (lo : Int32) (hi : Int32) (u0 : Nat) (hk : k < (z 0)) (hc : (z 0) ≤ 16) (hE : ∀ k, k < (z 1) → q_r ((g 14) k) 16 ∧ q_r ((g 15) k) 16) (ht : (z 1) ≤ 40) (hst : dtH u0 (g 14) (g 15) (g 16) (upd (g 12) k (mx ((g 12) k) lo)) (upd (g 13) k (mn ((g 13) k) hi)) (g 19) (g 20) (z 1) (z 0)) (hd9 : (dtD u0 (g 14) (g 15) (g 16) (upd (g 12) k (mx ((g 12) k) lo)) (upd (g 13) k (mn ((g 13) k) hi)) (g 19) (g 20) (z 1) (z 0)).2.2.1 = false) : q_CI l yX6_finds [Cond.code yX6_finds cX6_finds 8 (some .int)] rm_X6_findsT0 D cA [.ref (ad 80), .int (nI k), .int lo, .int hi, .int (nI 1)] (mdW cA ad g z) (-1) (mdW cA ad (gs (gs g 19 ((dtD u0 (g 14) (g 15) (g 16) (upd (g 12) k (mx ((g 12) k) lo)) (upd (g 13) k (mn ((g 13) k) hi)) (g 19) (g 20) (z 1) (z 0)).1)) 20 ((dtD u0 (g 14) (g 15) (g 16) (upd (g 12) k (mx ((g 12) k) lo)) (upd (g 13) k (mn ((g 13) k) hi)) (g 19) (g 20) (z 1) (z 0)).2.1)) z) := by
  refine q_startI RX6 (by decide +kernel) rfl (Nat.le_of_ble_eq_true rfl) ?_
  intro p e s m below meth c A args H locs ls hx hb hr hml hown hT hlk hP hK hD hA hS hl
  have hl : lv_has ls 8 [(0, .ref (ad 80)), (1, .int (nI k)), (2, .int lo), (3, .int hi), (4, .int (nI 1))] := hl
  have zqJ51 : ∀ (H : Heap) (locs : List Loc) (ls : Array Slot), va_P D vwCl (mdW cA ad (gs g 12 (upd (g 12) k (mx ((g 12) k) lo))) z) H → va_D A (mdW cA ad (gs g 12 (upd (g 12) k (mx ((g 12) k) lo))) z) → va_S A s.heap H locs → lv_has ls 8 [(0, .ref (ad 80)), (1, .int (nI k)), (2, .int lo), (3, .int hi), (4, .int (nI 1)), (5, .int (g 12 k)), (6, .int (g 13 k))] → W p l e rm_X6_findsT0 s m args below meth c H locs 0 0 (q_GI D (-1) (mdW cA ad (gs (gs g 19 ((dtD u0 (g 14) (g 15) (g 16) (upd (g 12) k (mx ((g 12) k) lo)) (upd (g 13) k (mn ((g 13) k) hi)) (g 19) (g 20) (z 1) (z 0)).1)) 20 ((dtD u0 (g 14) (g 15) (g 16) (upd (g 12) k (mx ((g 12) k) lo)) (upd (g 13) k (mn ((g 13) k) hi)) (g 19) (g 20) (z 1) (z 0)).2.1)) z) A below args s) (F0 m 51 ls [.int (mn (g 13 k) hi), .int (nI k), .ref (ad 13)]) := by
    intro   H locs ls hP hD hS hl
    refine q_iast (f := g 13) (ws1 := mdW cA ad (gs (gs g 12 (upd (g 12) k (mx ((g 12) k) lo))) 13 (upd (g 13) k (mn (g 13 k) hi))) z) hx hb hK hP hD hS 12 0 rfl rfl (k) rfl (by omega) (by omega) rfl dX6_finds_51 (fun H locs hP hD hS => ?_)
    refine lv_aload_n hx hb dX6_finds_52 rfl (lv_at hl 0 rfl) ?_
    refine q_callIW (As := []) (r := q_b ((dtD u0 (g 14) (g 15) (g 16) (upd (g 12) k (mx ((g 12) k) lo)) (upd (g 13) k (mn (g 13 k) hi)) (g 19) (g 20) (z 1) (z 0)).2.2.1)) (w1 := mdW cA ad (gs (gs (gs (gs g 12 (upd (g 12) k (mx ((g 12) k) lo))) 13 (upd (g 13) k (mn (g 13 k) hi))) 19 ((dtD u0 (g 14) (g 15) (g 16) (upd (g 12) k (mx ((g 12) k) lo)) (upd (g 13) k (mn (g 13 k) hi)) (g 19) (g 20) (z 1) (z 0)).1)) 20 ((dtD u0 (g 14) (g 15) (g 16) (upd (g 12) k (mx ((g 12) k) lo)) (upd (g 13) k (mn (g 13 k) hi)) (g 19) (g 20) (z 1) (z 0)).2.1)) z) hx hb hml hown hT hK hP hD hS hA (c_X6_dates l D cA ad (gs (gs g 12 (upd (g 12) k (mx ((g 12) k) lo))) 13 (upd (g 13) k (mn (g 13 k) hi))) z u0 (show (z 0) ≤ 16 by omega) hE (show (z 1) ≤ 40 by omega) hst) k_X6_dates kl_X6_114 (q0 := 0) rfl rfl rfl ((mdW_adr _ _ _ _).trans (mdW_adr _ _ _ _).symm) hl rfl rfl (Nat.le_of_ble_eq_true rfl) ⟨⟨rfl, rfl⟩, Nat.le_of_ble_eq_true rfl, Nat.le_of_ble_eq_true rfl⟩ ⟨Nat.zero_le _, Nat.zero_le _⟩ dX6_finds_53 (fun H locs hP hD hS => ?_)
    refine lv_if_eq (tgt := 66) hx hb dX6_finds_56 (by decide) (fun c_56 => ?_) (fun c_56 => ?_)
    · have c_56 := q_b0e c_56
      refine lv_iconst (v := (-1)) hx hb dX6_finds_66 (by decide +kernel) ?_
      refine lv_istore (lv' := [(7, .int (-1)), (0, .ref (ad 80)), (1, .int (nI k)), (2, .int lo), (3, .int hi), (4, .int (nI 1)), (5, .int (g 12 k)), (6, .int (g 13 k))]) hx hb dX6_finds_67 hl (by decide) rfl (fun ls hl => ?_)
      refine lv_iload hx hb dX6_finds_69 (lv_at hl 5 rfl) ?_
      refine lv_if_eq (tgt := 87) hx hb dX6_finds_71 (by decide) (fun c_71 => ?_) (fun c_71 => ?_)
      · have c_71 := nI_eq1 (a := 1) (b := 0) (by omega) (by omega) c_71
        exfalso; omega
      · have c_71 := nI_eq0 (a := 1) (b := 0) (by omega) (by omega) c_71
        refine lv_iload hx hb dX6_finds_74 (lv_at hl 0 rfl) ?_
        refine lv_iconst (v := (-1)) hx hb dX6_finds_76 (by decide +kernel) ?_
        refine lv_icmp_eq (tgt := 87) hx hb dX6_finds_77 (by decide) (fun c_77 => ?_) (fun c_77 => ?_)
        · refine lv_aload_n hx hb dX6_finds_87 rfl (lv_at hl 1 rfl) ?_
          refine q_get hx hb hT hown hK hP kw_X6 0 rfl rfl 11 (by decide) kf_X6_40 rfl (v := .ref (ad 12)) rfl dX6_finds_88 ?_
          refine lv_iload_n hx hb dX6_finds_91 rfl (lv_at hl 2 rfl) ?_
          refine lv_iload hx hb dX6_finds_92 (lv_at hl 6 rfl) ?_
          refine q_iast (f := (upd (g 12) k (mx ((g 12) k) lo))) (ws1 := mdW cA ad (gs (gs (gs (gs g 12 (upd (upd (g 12) k (mx ((g 12) k) lo)) k (g 12 k))) 13 (upd (g 13) k (mn (g 13 k) hi))) 19 ((dtD u0 (g 14) (g 15) (g 16) (upd (g 12) k (mx ((g 12) k) lo)) (upd (g 13) k (mn (g 13 k) hi)) (g 19) (g 20) (z 1) (z 0)).1)) 20 ((dtD u0 (g 14) (g 15) (g 16) (upd (g 12) k (mx ((g 12) k) lo)) (upd (g 13) k (mn (g 13 k) hi)) (g 19) (g 20) (z 1) (z 0)).2.1)) z) hx hb hK hP hD hS 11 0 rfl rfl (k) rfl (by omega) (by omega) rfl dX6_finds_94 (fun H locs hP hD hS => ?_)
          refine lv_aload_n hx hb dX6_finds_95 rfl (lv_at hl 1 rfl) ?_
          refine q_get hx hb hT hown hK hP kw_X6 0 rfl rfl 12 (by decide) kf_X6_43 rfl (v := .ref (ad 13)) rfl dX6_finds_96 ?_
          refine lv_iload_n hx hb dX6_finds_99 rfl (lv_at hl 2 rfl) ?_
          refine lv_iload hx hb dX6_finds_100 (lv_at hl 7 rfl) ?_
          refine q_iast (f := upd (g 13) k (mn (g 13 k) hi)) (ws1 := mdW cA ad (gs (gs (gs (gs g 12 (upd (upd (g 12) k (mx ((g 12) k) lo)) k (g 12 k))) 13 (upd (upd (g 13) k (mn (g 13 k) hi)) k (g 13 k))) 19 ((dtD u0 (g 14) (g 15) (g 16) (upd (g 12) k (mx ((g 12) k) lo)) (upd (g 13) k (mn (g 13 k) hi)) (g 19) (g 20) (z 1) (z 0)).1)) 20 ((dtD u0 (g 14) (g 15) (g 16) (upd (g 12) k (mx ((g 12) k) lo)) (upd (g 13) k (mn (g 13 k) hi)) (g 19) (g 20) (z 1) (z 0)).2.1)) z) hx hb hK hP hD hS 12 0 rfl rfl (k) rfl (by omega) (by omega) rfl dX6_finds_102 (fun H locs hP hD hS => ?_)
          refine lv_iload hx hb dX6_finds_103 (lv_at hl 0 rfl) ?_
          exact q_iret hx hb hr hlk (by rfl) (va_cast' hP (by rw [upd_back, upd_back]; rfl)) hS dX6_finds_105
        · exact absurd rfl c_77
    · have c_56 := q_b0n c_56
      exact absurd (c_56.symm.trans hd9) (by decide)
  have zqJ33 : ∀ (H : Heap) (locs : List Loc) (ls : Array Slot), va_P D vwCl (mdW cA ad g z) H → va_D A (mdW cA ad g z) → va_S A s.heap H locs → lv_has ls 8 [(0, .ref (ad 80)), (1, .int (nI k)), (2, .int lo), (3, .int hi), (4, .int (nI 1)), (5, .int (g 12 k)), (6, .int (g 13 k))] → W p l e rm_X6_findsT0 s m args below meth c H locs 0 0 (q_GI D (-1) (mdW cA ad (gs (gs g 19 ((dtD u0 (g 14) (g 15) (g 16) (upd (g 12) k (mx ((g 12) k) lo)) (upd (g 13) k (mn ((g 13) k) hi)) (g 19) (g 20) (z 1) (z 0)).1)) 20 ((dtD u0 (g 14) (g 15) (g 16) (upd (g 12) k (mx ((g 12) k) lo)) (upd (g 13) k (mn ((g 13) k) hi)) (g 19) (g 20) (z 1) (z 0)).2.1)) z) A below args s) (F0 m 33 ls [.int (mx (g 12 k) lo), .int (nI k), .ref (ad 12)]) := by
    intro   H locs ls hP hD hS hl
    refine q_iast (f := g 12) (ws1 := mdW cA ad (gs g 12 (upd (g 12) k (mx (g 12 k) lo))) z) hx hb hK hP hD hS 11 0 rfl rfl (k) rfl (by omega) (by omega) rfl dX6_finds_33 (fun H locs hP hD hS => ?_)
    refine lv_aload_n hx hb dX6_finds_34 rfl (lv_at hl 0 rfl) ?_
    refine q_get hx hb hT hown hK hP kw_X6 0 rfl rfl 12 (by decide) kf_X6_43 rfl (v := .ref (ad 13)) rfl dX6_finds_35 ?_
    refine lv_iload_n hx hb dX6_finds_38 rfl (lv_at hl 1 rfl) ?_
    refine lv_iload_n hx hb dX6_finds_39 rfl (lv_at hl 3 rfl) ?_
    refine lv_iload hx hb dX6_finds_40 (lv_at hl 6 rfl) ?_
    refine lv_icmp_ge (tgt := 49) hx hb dX6_finds_42 (by decide) (fun c_42 => ?_) (fun c_42 => ?_)
    · refine lv_iload hx hb dX6_finds_49 (lv_at hl 6 rfl) ?_
      refine q_top (y := mn (g 13 k) hi) (by first | exact mn_t c_42 | exact mn_f c_42) ?_
      exact zqJ51   _ _ _ hP hD hS (lv_sub hl [0, 1, 2, 3, 4, 5, 6] rfl)
    · refine lv_iload_n hx hb dX6_finds_45 rfl (lv_at hl 3 rfl) ?_
      refine lv_goto (tgt := 51) hx hb dX6_finds_46 (by decide) ?_
      refine q_top (y := mn (g 13 k) hi) (by first | exact mn_t c_42 | exact mn_f c_42) ?_
      exact zqJ51   _ _ _ hP hD hS (lv_sub hl [0, 1, 2, 3, 4, 5, 6] rfl)
  refine lv_aload_n hx hb dX6_finds_0 rfl (lv_at hl 0 rfl) ?_
  refine q_get hx hb hT hown hK hP kw_X6 0 rfl rfl 11 (by decide) kf_X6_40 rfl (v := .ref (ad 12)) rfl dX6_finds_1 ?_
  refine lv_iload_n hx hb dX6_finds_4 rfl (lv_at hl 1 rfl) ?_
  refine q_iald (f := g 12) hx hb hK hP 11 0 rfl rfl (k) rfl (by omega) (by omega) dX6_finds_5 ?_
  refine lv_istore (lv' := [(5, .int (g 12 k)), (0, .ref (ad 80)), (1, .int (nI k)), (2, .int lo), (3, .int hi), (4, .int (nI 1))]) hx hb dX6_finds_6 hl (by decide) rfl (fun ls hl => ?_)
  refine lv_aload_n hx hb dX6_finds_8 rfl (lv_at hl 1 rfl) ?_
  refine q_get hx hb hT hown hK hP kw_X6 0 rfl rfl 12 (by decide) kf_X6_43 rfl (v := .ref (ad 13)) rfl dX6_finds_9 ?_
  refine lv_iload_n hx hb dX6_finds_12 rfl (lv_at hl 2 rfl) ?_
  refine q_iald (f := g 13) hx hb hK hP 12 0 rfl rfl (k) rfl (by omega) (by omega) dX6_finds_13 ?_
  refine lv_istore (lv' := [(6, .int (g 13 k)), (5, .int (g 12 k)), (0, .ref (ad 80)), (1, .int (nI k)), (2, .int lo), (3, .int hi), (4, .int (nI 1))]) hx hb dX6_finds_14 hl (by decide) rfl (fun ls hl => ?_)
  refine lv_aload_n hx hb dX6_finds_16 rfl (lv_at hl 2 rfl) ?_
  refine q_get hx hb hT hown hK hP kw_X6 0 rfl rfl 11 (by decide) kf_X6_40 rfl (v := .ref (ad 12)) rfl dX6_finds_17 ?_
  refine lv_iload_n hx hb dX6_finds_20 rfl (lv_at hl 3 rfl) ?_
  refine lv_iload_n hx hb dX6_finds_21 rfl (lv_at hl 4 rfl) ?_
  refine lv_iload hx hb dX6_finds_22 (lv_at hl 1 rfl) ?_
  refine lv_icmp_le (tgt := 31) hx hb dX6_finds_24 (by decide) (fun c_24 => ?_) (fun c_24 => ?_)
  · refine lv_iload hx hb dX6_finds_31 (lv_at hl 1 rfl) ?_
    refine q_top (y := mx (g 12 k) lo) (by first | exact mx_t c_24 | exact mx_f c_24) ?_
    exact zqJ33   _ _ _ hP hD hS (lv_sub hl [2, 3, 4, 5, 6, 1, 0] rfl)
  · refine lv_iload_n hx hb dX6_finds_27 rfl (lv_at hl 4 rfl) ?_
    refine lv_goto (tgt := 33) hx hb dX6_finds_28 (by decide) ?_
    refine q_top (y := mx (g 12 k) lo) (by first | exact mx_t c_24 | exact mx_f c_24) ?_
    exact zqJ33   _ _ _ hP hD hS (lv_sub hl [2, 3, 4, 5, 6, 1, 0] rfl)
abbrev rm_X6_findsF1 : Room := { frames := 1, cells := 0, slots := 0, locals := 25 }
set_option maxRecDepth 100000 in
set_option maxHeartbeats 4000000 in
theorem c_X6_findsF1 (l : Launch) (D : va_G) (cA : ClassId) (ad : Nat → Nat) (g : Nat → Nat → Int32) (z : Nat → Nat) (k : Nat) (lo : Int32) (hi : Int32) (u0 : Nat) (hk : k < (z 0)) (hc : (z 0) ≤ 16) (hE : ∀ k, k < (z 1) → q_r ((g 14) k) 16 ∧ q_r ((g 15) k) 16) (ht : (z 1) ≤ 40) (hst : dtH u0 (g 14) (g 15) (g 16) (upd (g 12) k (mx ((g 12) k) lo)) (upd (g 13) k (mn ((g 13) k) hi)) (g 19) (g 20) (z 1) (z 0)) (hd9 : (dtD u0 (g 14) (g 15) (g 16) (upd (g 12) k (mx ((g 12) k) lo)) (upd (g 13) k (mn ((g 13) k) hi)) (g 19) (g 20) (z 1) (z 0)).2.2.1 = true) : q_CI l yX6_finds [Cond.code yX6_finds cX6_finds 8 (some .int)] rm_X6_findsF1 D cA [.ref (ad 80), .int (nI k), .int lo, .int hi, .int (nI 0)] (mdW cA ad g z) (nI (mvd (dtD u0 (g 14) (g 15) (g 16) (upd (g 12) k (mx ((g 12) k) lo)) (upd (g 13) k (mn ((g 13) k) hi)) (g 19) (g 20) (z 1) (z 0)).1 (dtD u0 (g 14) (g 15) (g 16) (upd (g 12) k (mx ((g 12) k) lo)) (upd (g 13) k (mn ((g 13) k) hi)) (g 19) (g 20) (z 1) (z 0)).2.1 (g 17) (g 18) (z 0))) (mdW cA ad (gs (gs g 19 ((dtD u0 (g 14) (g 15) (g 16) (upd (g 12) k (mx ((g 12) k) lo)) (upd (g 13) k (mn ((g 13) k) hi)) (g 19) (g 20) (z 1) (z 0)).1)) 20 ((dtD u0 (g 14) (g 15) (g 16) (upd (g 12) k (mx ((g 12) k) lo)) (upd (g 13) k (mn ((g 13) k) hi)) (g 19) (g 20) (z 1) (z 0)).2.1)) z) := by
  refine q_startI RX6 (by decide +kernel) rfl (Nat.le_of_ble_eq_true rfl) ?_
  intro p e s m below meth c A args H locs ls hx hb hr hml hown hT hlk hP hK hD hA hS hl
  have hl : lv_has ls 8 [(0, .ref (ad 80)), (1, .int (nI k)), (2, .int lo), (3, .int hi), (4, .int (nI 0))] := hl
  have zqJ51 : ∀ (H : Heap) (locs : List Loc) (ls : Array Slot), va_P D vwCl (mdW cA ad (gs g 12 (upd (g 12) k (mx ((g 12) k) lo))) z) H → va_D A (mdW cA ad (gs g 12 (upd (g 12) k (mx ((g 12) k) lo))) z) → va_S A s.heap H locs → lv_has ls 8 [(0, .ref (ad 80)), (1, .int (nI k)), (2, .int lo), (3, .int hi), (4, .int (nI 0)), (5, .int (g 12 k)), (6, .int (g 13 k))] → W p l e rm_X6_findsF1 s m args below meth c H locs 0 0 (q_GI D (nI (mvd (dtD u0 (g 14) (g 15) (g 16) (upd (g 12) k (mx ((g 12) k) lo)) (upd (g 13) k (mn ((g 13) k) hi)) (g 19) (g 20) (z 1) (z 0)).1 (dtD u0 (g 14) (g 15) (g 16) (upd (g 12) k (mx ((g 12) k) lo)) (upd (g 13) k (mn ((g 13) k) hi)) (g 19) (g 20) (z 1) (z 0)).2.1 (g 17) (g 18) (z 0))) (mdW cA ad (gs (gs g 19 ((dtD u0 (g 14) (g 15) (g 16) (upd (g 12) k (mx ((g 12) k) lo)) (upd (g 13) k (mn ((g 13) k) hi)) (g 19) (g 20) (z 1) (z 0)).1)) 20 ((dtD u0 (g 14) (g 15) (g 16) (upd (g 12) k (mx ((g 12) k) lo)) (upd (g 13) k (mn ((g 13) k) hi)) (g 19) (g 20) (z 1) (z 0)).2.1)) z) A below args s) (F0 m 51 ls [.int (mn (g 13 k) hi), .int (nI k), .ref (ad 13)]) := by
    intro   H locs ls hP hD hS hl
    refine q_iast (f := g 13) (ws1 := mdW cA ad (gs (gs g 12 (upd (g 12) k (mx ((g 12) k) lo))) 13 (upd (g 13) k (mn (g 13 k) hi))) z) hx hb hK hP hD hS 12 0 rfl rfl (k) rfl (by omega) (by omega) rfl dX6_finds_51 (fun H locs hP hD hS => ?_)
    refine lv_aload_n hx hb dX6_finds_52 rfl (lv_at hl 0 rfl) ?_
    refine q_callIW (As := []) (r := q_b ((dtD u0 (g 14) (g 15) (g 16) (upd (g 12) k (mx ((g 12) k) lo)) (upd (g 13) k (mn (g 13 k) hi)) (g 19) (g 20) (z 1) (z 0)).2.2.1)) (w1 := mdW cA ad (gs (gs (gs (gs g 12 (upd (g 12) k (mx ((g 12) k) lo))) 13 (upd (g 13) k (mn (g 13 k) hi))) 19 ((dtD u0 (g 14) (g 15) (g 16) (upd (g 12) k (mx ((g 12) k) lo)) (upd (g 13) k (mn (g 13 k) hi)) (g 19) (g 20) (z 1) (z 0)).1)) 20 ((dtD u0 (g 14) (g 15) (g 16) (upd (g 12) k (mx ((g 12) k) lo)) (upd (g 13) k (mn (g 13 k) hi)) (g 19) (g 20) (z 1) (z 0)).2.1)) z) hx hb hml hown hT hK hP hD hS hA (c_X6_dates l D cA ad (gs (gs g 12 (upd (g 12) k (mx ((g 12) k) lo))) 13 (upd (g 13) k (mn (g 13 k) hi))) z u0 (show (z 0) ≤ 16 by omega) hE (show (z 1) ≤ 40 by omega) hst) k_X6_dates kl_X6_114 (q0 := 0) rfl rfl rfl ((mdW_adr _ _ _ _).trans (mdW_adr _ _ _ _).symm) hl rfl rfl (Nat.le_of_ble_eq_true rfl) ⟨⟨rfl, rfl⟩, Nat.le_of_ble_eq_true rfl, Nat.le_of_ble_eq_true rfl⟩ ⟨Nat.zero_le _, Nat.zero_le _⟩ dX6_finds_53 (fun H locs hP hD hS => ?_)
    refine lv_if_eq (tgt := 66) hx hb dX6_finds_56 (by decide) (fun c_56 => ?_) (fun c_56 => ?_)
    · have c_56 := q_b0e c_56
      exact absurd (c_56.symm.trans hd9) (by decide)
    · have c_56 := q_b0n c_56
      refine lv_aload_n hx hb dX6_finds_59 rfl (lv_at hl 0 rfl) ?_
      refine q_callIW (As := []) (r := nI (mvd ((dtD u0 (g 14) (g 15) (g 16) (upd (g 12) k (mx ((g 12) k) lo)) (upd (g 13) k (mn (g 13 k) hi)) (g 19) (g 20) (z 1) (z 0)).1) ((dtD u0 (g 14) (g 15) (g 16) (upd (g 12) k (mx ((g 12) k) lo)) (upd (g 13) k (mn (g 13 k) hi)) (g 19) (g 20) (z 1) (z 0)).2.1) (g 17) (g 18) (z 0))) (w1 := mdW cA ad (gs (gs (gs (gs g 12 (upd (g 12) k (mx ((g 12) k) lo))) 13 (upd (g 13) k (mn (g 13 k) hi))) 19 ((dtD u0 (g 14) (g 15) (g 16) (upd (g 12) k (mx ((g 12) k) lo)) (upd (g 13) k (mn (g 13 k) hi)) (g 19) (g 20) (z 1) (z 0)).1)) 20 ((dtD u0 (g 14) (g 15) (g 16) (upd (g 12) k (mx ((g 12) k) lo)) (upd (g 13) k (mn (g 13 k) hi)) (g 19) (g 20) (z 1) (z 0)).2.1)) z) hx hb hml hown hT hK hP hD hS hA (c_X6_moves l D cA ad (gs (gs (gs (gs g 12 (upd (g 12) k (mx ((g 12) k) lo))) 13 (upd (g 13) k (mn (g 13 k) hi))) 19 ((dtD u0 (g 14) (g 15) (g 16) (upd (g 12) k (mx ((g 12) k) lo)) (upd (g 13) k (mn (g 13 k) hi)) (g 19) (g 20) (z 1) (z 0)).1)) 20 ((dtD u0 (g 14) (g 15) (g 16) (upd (g 12) k (mx ((g 12) k) lo)) (upd (g 13) k (mn (g 13 k) hi)) (g 19) (g 20) (z 1) (z 0)).2.1)) z (show (z 0) ≤ 16 by omega)) k_X6_moves kl_X6_118 (q0 := 0) rfl rfl rfl ((mdW_adr _ _ _ _).trans (mdW_adr _ _ _ _).symm) hl rfl rfl (Nat.le_of_ble_eq_true rfl) ⟨⟨rfl, rfl⟩, Nat.le_of_ble_eq_true rfl, Nat.le_of_ble_eq_true rfl⟩ ⟨Nat.zero_le _, Nat.zero_le _⟩ dX6_finds_60 (fun H locs hP hD hS => ?_)
      refine lv_goto (tgt := 67) hx hb dX6_finds_63 (by decide) ?_
      refine lv_istore (lv' := [(7, .int (nI (mvd ((dtD u0 (g 14) (g 15) (g 16) (upd (g 12) k (mx ((g 12) k) lo)) (upd (g 13) k (mn (g 13 k) hi)) (g 19) (g 20) (z 1) (z 0)).1) ((dtD u0 (g 14) (g 15) (g 16) (upd (g 12) k (mx ((g 12) k) lo)) (upd (g 13) k (mn (g 13 k) hi)) (g 19) (g 20) (z 1) (z 0)).2.1) (g 17) (g 18) (z 0)))), (0, .ref (ad 80)), (1, .int (nI k)), (2, .int lo), (3, .int hi), (4, .int (nI 0)), (5, .int (g 12 k)), (6, .int (g 13 k))]) hx hb dX6_finds_67 hl (by decide) rfl (fun ls hl => ?_)
      refine lv_iload hx hb dX6_finds_69 (lv_at hl 5 rfl) ?_
      refine lv_if_eq (tgt := 87) hx hb dX6_finds_71 (by decide) (fun c_71 => ?_) (fun c_71 => ?_)
      · have c_71 := nI_eq1 (a := 0) (b := 0) (by omega) (by omega) c_71
        refine lv_aload_n hx hb dX6_finds_87 rfl (lv_at hl 1 rfl) ?_
        refine q_get hx hb hT hown hK hP kw_X6 0 rfl rfl 11 (by decide) kf_X6_40 rfl (v := .ref (ad 12)) rfl dX6_finds_88 ?_
        refine lv_iload_n hx hb dX6_finds_91 rfl (lv_at hl 2 rfl) ?_
        refine lv_iload hx hb dX6_finds_92 (lv_at hl 6 rfl) ?_
        refine q_iast (f := (upd (g 12) k (mx ((g 12) k) lo))) (ws1 := mdW cA ad (gs (gs (gs (gs g 12 (upd (upd (g 12) k (mx ((g 12) k) lo)) k (g 12 k))) 13 (upd (g 13) k (mn (g 13 k) hi))) 19 ((dtD u0 (g 14) (g 15) (g 16) (upd (g 12) k (mx ((g 12) k) lo)) (upd (g 13) k (mn (g 13 k) hi)) (g 19) (g 20) (z 1) (z 0)).1)) 20 ((dtD u0 (g 14) (g 15) (g 16) (upd (g 12) k (mx ((g 12) k) lo)) (upd (g 13) k (mn (g 13 k) hi)) (g 19) (g 20) (z 1) (z 0)).2.1)) z) hx hb hK hP hD hS 11 0 rfl rfl (k) rfl (by omega) (by omega) rfl dX6_finds_94 (fun H locs hP hD hS => ?_)
        refine lv_aload_n hx hb dX6_finds_95 rfl (lv_at hl 1 rfl) ?_
        refine q_get hx hb hT hown hK hP kw_X6 0 rfl rfl 12 (by decide) kf_X6_43 rfl (v := .ref (ad 13)) rfl dX6_finds_96 ?_
        refine lv_iload_n hx hb dX6_finds_99 rfl (lv_at hl 2 rfl) ?_
        refine lv_iload hx hb dX6_finds_100 (lv_at hl 7 rfl) ?_
        refine q_iast (f := upd (g 13) k (mn (g 13 k) hi)) (ws1 := mdW cA ad (gs (gs (gs (gs g 12 (upd (upd (g 12) k (mx ((g 12) k) lo)) k (g 12 k))) 13 (upd (upd (g 13) k (mn (g 13 k) hi)) k (g 13 k))) 19 ((dtD u0 (g 14) (g 15) (g 16) (upd (g 12) k (mx ((g 12) k) lo)) (upd (g 13) k (mn (g 13 k) hi)) (g 19) (g 20) (z 1) (z 0)).1)) 20 ((dtD u0 (g 14) (g 15) (g 16) (upd (g 12) k (mx ((g 12) k) lo)) (upd (g 13) k (mn (g 13 k) hi)) (g 19) (g 20) (z 1) (z 0)).2.1)) z) hx hb hK hP hD hS 12 0 rfl rfl (k) rfl (by omega) (by omega) rfl dX6_finds_102 (fun H locs hP hD hS => ?_)
        refine lv_iload hx hb dX6_finds_103 (lv_at hl 0 rfl) ?_
        exact q_iret hx hb hr hlk (by rfl) (va_cast' hP (by rw [upd_back, upd_back]; rfl)) hS dX6_finds_105
      · have c_71 := nI_eq0 (a := 0) (b := 0) (by omega) (by omega) c_71
        exfalso; omega
  have zqJ33 : ∀ (H : Heap) (locs : List Loc) (ls : Array Slot), va_P D vwCl (mdW cA ad g z) H → va_D A (mdW cA ad g z) → va_S A s.heap H locs → lv_has ls 8 [(0, .ref (ad 80)), (1, .int (nI k)), (2, .int lo), (3, .int hi), (4, .int (nI 0)), (5, .int (g 12 k)), (6, .int (g 13 k))] → W p l e rm_X6_findsF1 s m args below meth c H locs 0 0 (q_GI D (nI (mvd (dtD u0 (g 14) (g 15) (g 16) (upd (g 12) k (mx ((g 12) k) lo)) (upd (g 13) k (mn ((g 13) k) hi)) (g 19) (g 20) (z 1) (z 0)).1 (dtD u0 (g 14) (g 15) (g 16) (upd (g 12) k (mx ((g 12) k) lo)) (upd (g 13) k (mn ((g 13) k) hi)) (g 19) (g 20) (z 1) (z 0)).2.1 (g 17) (g 18) (z 0))) (mdW cA ad (gs (gs g 19 ((dtD u0 (g 14) (g 15) (g 16) (upd (g 12) k (mx ((g 12) k) lo)) (upd (g 13) k (mn ((g 13) k) hi)) (g 19) (g 20) (z 1) (z 0)).1)) 20 ((dtD u0 (g 14) (g 15) (g 16) (upd (g 12) k (mx ((g 12) k) lo)) (upd (g 13) k (mn ((g 13) k) hi)) (g 19) (g 20) (z 1) (z 0)).2.1)) z) A below args s) (F0 m 33 ls [.int (mx (g 12 k) lo), .int (nI k), .ref (ad 12)]) := by
    intro   H locs ls hP hD hS hl
    refine q_iast (f := g 12) (ws1 := mdW cA ad (gs g 12 (upd (g 12) k (mx (g 12 k) lo))) z) hx hb hK hP hD hS 11 0 rfl rfl (k) rfl (by omega) (by omega) rfl dX6_finds_33 (fun H locs hP hD hS => ?_)
    refine lv_aload_n hx hb dX6_finds_34 rfl (lv_at hl 0 rfl) ?_
    refine q_get hx hb hT hown hK hP kw_X6 0 rfl rfl 12 (by decide) kf_X6_43 rfl (v := .ref (ad 13)) rfl dX6_finds_35 ?_
    refine lv_iload_n hx hb dX6_finds_38 rfl (lv_at hl 1 rfl) ?_
    refine lv_iload_n hx hb dX6_finds_39 rfl (lv_at hl 3 rfl) ?_
    refine lv_iload hx hb dX6_finds_40 (lv_at hl 6 rfl) ?_
    refine lv_icmp_ge (tgt := 49) hx hb dX6_finds_42 (by decide) (fun c_42 => ?_) (fun c_42 => ?_)
    · refine lv_iload hx hb dX6_finds_49 (lv_at hl 6 rfl) ?_
      refine q_top (y := mn (g 13 k) hi) (by first | exact mn_t c_42 | exact mn_f c_42) ?_
      exact zqJ51   _ _ _ hP hD hS (lv_sub hl [0, 1, 2, 3, 4, 5, 6] rfl)
    · refine lv_iload_n hx hb dX6_finds_45 rfl (lv_at hl 3 rfl) ?_
      refine lv_goto (tgt := 51) hx hb dX6_finds_46 (by decide) ?_
      refine q_top (y := mn (g 13 k) hi) (by first | exact mn_t c_42 | exact mn_f c_42) ?_
      exact zqJ51   _ _ _ hP hD hS (lv_sub hl [0, 1, 2, 3, 4, 5, 6] rfl)
  refine lv_aload_n hx hb dX6_finds_0 rfl (lv_at hl 0 rfl) ?_
  refine q_get hx hb hT hown hK hP kw_X6 0 rfl rfl 11 (by decide) kf_X6_40 rfl (v := .ref (ad 12)) rfl dX6_finds_1 ?_
  refine lv_iload_n hx hb dX6_finds_4 rfl (lv_at hl 1 rfl) ?_
  refine q_iald (f := g 12) hx hb hK hP 11 0 rfl rfl (k) rfl (by omega) (by omega) dX6_finds_5 ?_
  refine lv_istore (lv' := [(5, .int (g 12 k)), (0, .ref (ad 80)), (1, .int (nI k)), (2, .int lo), (3, .int hi), (4, .int (nI 0))]) hx hb dX6_finds_6 hl (by decide) rfl (fun ls hl => ?_)
  refine lv_aload_n hx hb dX6_finds_8 rfl (lv_at hl 1 rfl) ?_
  refine q_get hx hb hT hown hK hP kw_X6 0 rfl rfl 12 (by decide) kf_X6_43 rfl (v := .ref (ad 13)) rfl dX6_finds_9 ?_
  refine lv_iload_n hx hb dX6_finds_12 rfl (lv_at hl 2 rfl) ?_
  refine q_iald (f := g 13) hx hb hK hP 12 0 rfl rfl (k) rfl (by omega) (by omega) dX6_finds_13 ?_
  refine lv_istore (lv' := [(6, .int (g 13 k)), (5, .int (g 12 k)), (0, .ref (ad 80)), (1, .int (nI k)), (2, .int lo), (3, .int hi), (4, .int (nI 0))]) hx hb dX6_finds_14 hl (by decide) rfl (fun ls hl => ?_)
  refine lv_aload_n hx hb dX6_finds_16 rfl (lv_at hl 2 rfl) ?_
  refine q_get hx hb hT hown hK hP kw_X6 0 rfl rfl 11 (by decide) kf_X6_40 rfl (v := .ref (ad 12)) rfl dX6_finds_17 ?_
  refine lv_iload_n hx hb dX6_finds_20 rfl (lv_at hl 3 rfl) ?_
  refine lv_iload_n hx hb dX6_finds_21 rfl (lv_at hl 4 rfl) ?_
  refine lv_iload hx hb dX6_finds_22 (lv_at hl 1 rfl) ?_
  refine lv_icmp_le (tgt := 31) hx hb dX6_finds_24 (by decide) (fun c_24 => ?_) (fun c_24 => ?_)
  · refine lv_iload hx hb dX6_finds_31 (lv_at hl 1 rfl) ?_
    refine q_top (y := mx (g 12 k) lo) (by first | exact mx_t c_24 | exact mx_f c_24) ?_
    exact zqJ33   _ _ _ hP hD hS (lv_sub hl [2, 3, 4, 5, 6, 1, 0] rfl)
  · refine lv_iload_n hx hb dX6_finds_27 rfl (lv_at hl 4 rfl) ?_
    refine lv_goto (tgt := 33) hx hb dX6_finds_28 (by decide) ?_
    refine q_top (y := mx (g 12 k) lo) (by first | exact mx_t c_24 | exact mx_f c_24) ?_
    exact zqJ33   _ _ _ hP hD hS (lv_sub hl [2, 3, 4, 5, 6, 1, 0] rfl)
abbrev rm_X6_findsF0 : Room := { frames := 1, cells := 0, slots := 0, locals := 25 }
set_option maxRecDepth 100000 in
set_option maxHeartbeats 4000000 in
theorem c_X6_findsF0 (l : Launch) (D : va_G) (cA : ClassId) (ad : Nat → Nat) (g : Nat → Nat → Int32) (z : Nat → Nat) (k : Nat) (lo : Int32) (hi : Int32) (u0 : Nat) (hk : k < (z 0)) (hc : (z 0) ≤ 16) (hE : ∀ k, k < (z 1) → q_r ((g 14) k) 16 ∧ q_r ((g 15) k) 16) (ht : (z 1) ≤ 40) (hst : dtH u0 (g 14) (g 15) (g 16) (upd (g 12) k (mx ((g 12) k) lo)) (upd (g 13) k (mn ((g 13) k) hi)) (g 19) (g 20) (z 1) (z 0)) (hd9 : (dtD u0 (g 14) (g 15) (g 16) (upd (g 12) k (mx ((g 12) k) lo)) (upd (g 13) k (mn ((g 13) k) hi)) (g 19) (g 20) (z 1) (z 0)).2.2.1 = false) : q_CI l yX6_finds [Cond.code yX6_finds cX6_finds 8 (some .int)] rm_X6_findsF0 D cA [.ref (ad 80), .int (nI k), .int lo, .int hi, .int (nI 0)] (mdW cA ad g z) (-1) (mdW cA ad (gs (gs g 19 ((dtD u0 (g 14) (g 15) (g 16) (upd (g 12) k (mx ((g 12) k) lo)) (upd (g 13) k (mn ((g 13) k) hi)) (g 19) (g 20) (z 1) (z 0)).1)) 20 ((dtD u0 (g 14) (g 15) (g 16) (upd (g 12) k (mx ((g 12) k) lo)) (upd (g 13) k (mn ((g 13) k) hi)) (g 19) (g 20) (z 1) (z 0)).2.1)) z) := by
  refine q_startI RX6 (by decide +kernel) rfl (Nat.le_of_ble_eq_true rfl) ?_
  intro p e s m below meth c A args H locs ls hx hb hr hml hown hT hlk hP hK hD hA hS hl
  have hl : lv_has ls 8 [(0, .ref (ad 80)), (1, .int (nI k)), (2, .int lo), (3, .int hi), (4, .int (nI 0))] := hl
  have zqJ51 : ∀ (H : Heap) (locs : List Loc) (ls : Array Slot), va_P D vwCl (mdW cA ad (gs g 12 (upd (g 12) k (mx ((g 12) k) lo))) z) H → va_D A (mdW cA ad (gs g 12 (upd (g 12) k (mx ((g 12) k) lo))) z) → va_S A s.heap H locs → lv_has ls 8 [(0, .ref (ad 80)), (1, .int (nI k)), (2, .int lo), (3, .int hi), (4, .int (nI 0)), (5, .int (g 12 k)), (6, .int (g 13 k))] → W p l e rm_X6_findsF0 s m args below meth c H locs 0 0 (q_GI D (-1) (mdW cA ad (gs (gs g 19 ((dtD u0 (g 14) (g 15) (g 16) (upd (g 12) k (mx ((g 12) k) lo)) (upd (g 13) k (mn ((g 13) k) hi)) (g 19) (g 20) (z 1) (z 0)).1)) 20 ((dtD u0 (g 14) (g 15) (g 16) (upd (g 12) k (mx ((g 12) k) lo)) (upd (g 13) k (mn ((g 13) k) hi)) (g 19) (g 20) (z 1) (z 0)).2.1)) z) A below args s) (F0 m 51 ls [.int (mn (g 13 k) hi), .int (nI k), .ref (ad 13)]) := by
    intro   H locs ls hP hD hS hl
    refine q_iast (f := g 13) (ws1 := mdW cA ad (gs (gs g 12 (upd (g 12) k (mx ((g 12) k) lo))) 13 (upd (g 13) k (mn (g 13 k) hi))) z) hx hb hK hP hD hS 12 0 rfl rfl (k) rfl (by omega) (by omega) rfl dX6_finds_51 (fun H locs hP hD hS => ?_)
    refine lv_aload_n hx hb dX6_finds_52 rfl (lv_at hl 0 rfl) ?_
    refine q_callIW (As := []) (r := q_b ((dtD u0 (g 14) (g 15) (g 16) (upd (g 12) k (mx ((g 12) k) lo)) (upd (g 13) k (mn (g 13 k) hi)) (g 19) (g 20) (z 1) (z 0)).2.2.1)) (w1 := mdW cA ad (gs (gs (gs (gs g 12 (upd (g 12) k (mx ((g 12) k) lo))) 13 (upd (g 13) k (mn (g 13 k) hi))) 19 ((dtD u0 (g 14) (g 15) (g 16) (upd (g 12) k (mx ((g 12) k) lo)) (upd (g 13) k (mn (g 13 k) hi)) (g 19) (g 20) (z 1) (z 0)).1)) 20 ((dtD u0 (g 14) (g 15) (g 16) (upd (g 12) k (mx ((g 12) k) lo)) (upd (g 13) k (mn (g 13 k) hi)) (g 19) (g 20) (z 1) (z 0)).2.1)) z) hx hb hml hown hT hK hP hD hS hA (c_X6_dates l D cA ad (gs (gs g 12 (upd (g 12) k (mx ((g 12) k) lo))) 13 (upd (g 13) k (mn (g 13 k) hi))) z u0 (show (z 0) ≤ 16 by omega) hE (show (z 1) ≤ 40 by omega) hst) k_X6_dates kl_X6_114 (q0 := 0) rfl rfl rfl ((mdW_adr _ _ _ _).trans (mdW_adr _ _ _ _).symm) hl rfl rfl (Nat.le_of_ble_eq_true rfl) ⟨⟨rfl, rfl⟩, Nat.le_of_ble_eq_true rfl, Nat.le_of_ble_eq_true rfl⟩ ⟨Nat.zero_le _, Nat.zero_le _⟩ dX6_finds_53 (fun H locs hP hD hS => ?_)
    refine lv_if_eq (tgt := 66) hx hb dX6_finds_56 (by decide) (fun c_56 => ?_) (fun c_56 => ?_)
    · have c_56 := q_b0e c_56
      refine lv_iconst (v := (-1)) hx hb dX6_finds_66 (by decide +kernel) ?_
      refine lv_istore (lv' := [(7, .int (-1)), (0, .ref (ad 80)), (1, .int (nI k)), (2, .int lo), (3, .int hi), (4, .int (nI 0)), (5, .int (g 12 k)), (6, .int (g 13 k))]) hx hb dX6_finds_67 hl (by decide) rfl (fun ls hl => ?_)
      refine lv_iload hx hb dX6_finds_69 (lv_at hl 5 rfl) ?_
      refine lv_if_eq (tgt := 87) hx hb dX6_finds_71 (by decide) (fun c_71 => ?_) (fun c_71 => ?_)
      · have c_71 := nI_eq1 (a := 0) (b := 0) (by omega) (by omega) c_71
        refine lv_aload_n hx hb dX6_finds_87 rfl (lv_at hl 1 rfl) ?_
        refine q_get hx hb hT hown hK hP kw_X6 0 rfl rfl 11 (by decide) kf_X6_40 rfl (v := .ref (ad 12)) rfl dX6_finds_88 ?_
        refine lv_iload_n hx hb dX6_finds_91 rfl (lv_at hl 2 rfl) ?_
        refine lv_iload hx hb dX6_finds_92 (lv_at hl 6 rfl) ?_
        refine q_iast (f := (upd (g 12) k (mx ((g 12) k) lo))) (ws1 := mdW cA ad (gs (gs (gs (gs g 12 (upd (upd (g 12) k (mx ((g 12) k) lo)) k (g 12 k))) 13 (upd (g 13) k (mn (g 13 k) hi))) 19 ((dtD u0 (g 14) (g 15) (g 16) (upd (g 12) k (mx ((g 12) k) lo)) (upd (g 13) k (mn (g 13 k) hi)) (g 19) (g 20) (z 1) (z 0)).1)) 20 ((dtD u0 (g 14) (g 15) (g 16) (upd (g 12) k (mx ((g 12) k) lo)) (upd (g 13) k (mn (g 13 k) hi)) (g 19) (g 20) (z 1) (z 0)).2.1)) z) hx hb hK hP hD hS 11 0 rfl rfl (k) rfl (by omega) (by omega) rfl dX6_finds_94 (fun H locs hP hD hS => ?_)
        refine lv_aload_n hx hb dX6_finds_95 rfl (lv_at hl 1 rfl) ?_
        refine q_get hx hb hT hown hK hP kw_X6 0 rfl rfl 12 (by decide) kf_X6_43 rfl (v := .ref (ad 13)) rfl dX6_finds_96 ?_
        refine lv_iload_n hx hb dX6_finds_99 rfl (lv_at hl 2 rfl) ?_
        refine lv_iload hx hb dX6_finds_100 (lv_at hl 7 rfl) ?_
        refine q_iast (f := upd (g 13) k (mn (g 13 k) hi)) (ws1 := mdW cA ad (gs (gs (gs (gs g 12 (upd (upd (g 12) k (mx ((g 12) k) lo)) k (g 12 k))) 13 (upd (upd (g 13) k (mn (g 13 k) hi)) k (g 13 k))) 19 ((dtD u0 (g 14) (g 15) (g 16) (upd (g 12) k (mx ((g 12) k) lo)) (upd (g 13) k (mn (g 13 k) hi)) (g 19) (g 20) (z 1) (z 0)).1)) 20 ((dtD u0 (g 14) (g 15) (g 16) (upd (g 12) k (mx ((g 12) k) lo)) (upd (g 13) k (mn (g 13 k) hi)) (g 19) (g 20) (z 1) (z 0)).2.1)) z) hx hb hK hP hD hS 12 0 rfl rfl (k) rfl (by omega) (by omega) rfl dX6_finds_102 (fun H locs hP hD hS => ?_)
        refine lv_iload hx hb dX6_finds_103 (lv_at hl 0 rfl) ?_
        exact q_iret hx hb hr hlk (by rfl) (va_cast' hP (by rw [upd_back, upd_back]; rfl)) hS dX6_finds_105
      · have c_71 := nI_eq0 (a := 0) (b := 0) (by omega) (by omega) c_71
        exfalso; omega
    · have c_56 := q_b0n c_56
      exact absurd (c_56.symm.trans hd9) (by decide)
  have zqJ33 : ∀ (H : Heap) (locs : List Loc) (ls : Array Slot), va_P D vwCl (mdW cA ad g z) H → va_D A (mdW cA ad g z) → va_S A s.heap H locs → lv_has ls 8 [(0, .ref (ad 80)), (1, .int (nI k)), (2, .int lo), (3, .int hi), (4, .int (nI 0)), (5, .int (g 12 k)), (6, .int (g 13 k))] → W p l e rm_X6_findsF0 s m args below meth c H locs 0 0 (q_GI D (-1) (mdW cA ad (gs (gs g 19 ((dtD u0 (g 14) (g 15) (g 16) (upd (g 12) k (mx ((g 12) k) lo)) (upd (g 13) k (mn ((g 13) k) hi)) (g 19) (g 20) (z 1) (z 0)).1)) 20 ((dtD u0 (g 14) (g 15) (g 16) (upd (g 12) k (mx ((g 12) k) lo)) (upd (g 13) k (mn ((g 13) k) hi)) (g 19) (g 20) (z 1) (z 0)).2.1)) z) A below args s) (F0 m 33 ls [.int (mx (g 12 k) lo), .int (nI k), .ref (ad 12)]) := by
    intro   H locs ls hP hD hS hl
    refine q_iast (f := g 12) (ws1 := mdW cA ad (gs g 12 (upd (g 12) k (mx (g 12 k) lo))) z) hx hb hK hP hD hS 11 0 rfl rfl (k) rfl (by omega) (by omega) rfl dX6_finds_33 (fun H locs hP hD hS => ?_)
    refine lv_aload_n hx hb dX6_finds_34 rfl (lv_at hl 0 rfl) ?_
    refine q_get hx hb hT hown hK hP kw_X6 0 rfl rfl 12 (by decide) kf_X6_43 rfl (v := .ref (ad 13)) rfl dX6_finds_35 ?_
    refine lv_iload_n hx hb dX6_finds_38 rfl (lv_at hl 1 rfl) ?_
    refine lv_iload_n hx hb dX6_finds_39 rfl (lv_at hl 3 rfl) ?_
    refine lv_iload hx hb dX6_finds_40 (lv_at hl 6 rfl) ?_
    refine lv_icmp_ge (tgt := 49) hx hb dX6_finds_42 (by decide) (fun c_42 => ?_) (fun c_42 => ?_)
    · refine lv_iload hx hb dX6_finds_49 (lv_at hl 6 rfl) ?_
      refine q_top (y := mn (g 13 k) hi) (by first | exact mn_t c_42 | exact mn_f c_42) ?_
      exact zqJ51   _ _ _ hP hD hS (lv_sub hl [0, 1, 2, 3, 4, 5, 6] rfl)
    · refine lv_iload_n hx hb dX6_finds_45 rfl (lv_at hl 3 rfl) ?_
      refine lv_goto (tgt := 51) hx hb dX6_finds_46 (by decide) ?_
      refine q_top (y := mn (g 13 k) hi) (by first | exact mn_t c_42 | exact mn_f c_42) ?_
      exact zqJ51   _ _ _ hP hD hS (lv_sub hl [0, 1, 2, 3, 4, 5, 6] rfl)
  refine lv_aload_n hx hb dX6_finds_0 rfl (lv_at hl 0 rfl) ?_
  refine q_get hx hb hT hown hK hP kw_X6 0 rfl rfl 11 (by decide) kf_X6_40 rfl (v := .ref (ad 12)) rfl dX6_finds_1 ?_
  refine lv_iload_n hx hb dX6_finds_4 rfl (lv_at hl 1 rfl) ?_
  refine q_iald (f := g 12) hx hb hK hP 11 0 rfl rfl (k) rfl (by omega) (by omega) dX6_finds_5 ?_
  refine lv_istore (lv' := [(5, .int (g 12 k)), (0, .ref (ad 80)), (1, .int (nI k)), (2, .int lo), (3, .int hi), (4, .int (nI 0))]) hx hb dX6_finds_6 hl (by decide) rfl (fun ls hl => ?_)
  refine lv_aload_n hx hb dX6_finds_8 rfl (lv_at hl 1 rfl) ?_
  refine q_get hx hb hT hown hK hP kw_X6 0 rfl rfl 12 (by decide) kf_X6_43 rfl (v := .ref (ad 13)) rfl dX6_finds_9 ?_
  refine lv_iload_n hx hb dX6_finds_12 rfl (lv_at hl 2 rfl) ?_
  refine q_iald (f := g 13) hx hb hK hP 12 0 rfl rfl (k) rfl (by omega) (by omega) dX6_finds_13 ?_
  refine lv_istore (lv' := [(6, .int (g 13 k)), (5, .int (g 12 k)), (0, .ref (ad 80)), (1, .int (nI k)), (2, .int lo), (3, .int hi), (4, .int (nI 0))]) hx hb dX6_finds_14 hl (by decide) rfl (fun ls hl => ?_)
  refine lv_aload_n hx hb dX6_finds_16 rfl (lv_at hl 2 rfl) ?_
  refine q_get hx hb hT hown hK hP kw_X6 0 rfl rfl 11 (by decide) kf_X6_40 rfl (v := .ref (ad 12)) rfl dX6_finds_17 ?_
  refine lv_iload_n hx hb dX6_finds_20 rfl (lv_at hl 3 rfl) ?_
  refine lv_iload_n hx hb dX6_finds_21 rfl (lv_at hl 4 rfl) ?_
  refine lv_iload hx hb dX6_finds_22 (lv_at hl 1 rfl) ?_
  refine lv_icmp_le (tgt := 31) hx hb dX6_finds_24 (by decide) (fun c_24 => ?_) (fun c_24 => ?_)
  · refine lv_iload hx hb dX6_finds_31 (lv_at hl 1 rfl) ?_
    refine q_top (y := mx (g 12 k) lo) (by first | exact mx_t c_24 | exact mx_f c_24) ?_
    exact zqJ33   _ _ _ hP hD hS (lv_sub hl [2, 3, 4, 5, 6, 1, 0] rfl)
  · refine lv_iload_n hx hb dX6_finds_27 rfl (lv_at hl 4 rfl) ?_
    refine lv_goto (tgt := 33) hx hb dX6_finds_28 (by decide) ?_
    refine q_top (y := mx (g 12 k) lo) (by first | exact mx_t c_24 | exact mx_f c_24) ?_
    exact zqJ33   _ _ _ hP hD hS (lv_sub hl [2, 3, 4, 5, 6, 1, 0] rfl)
abbrev rm_X6_find : Room := { frames := 2, cells := 0, slots := 0, locals := 52 }
set_option maxRecDepth 100000 in
set_option maxHeartbeats 4000000 in
theorem c_X6_find (l : Launch) (D : va_G) (cA : ClassId) (ad : Nat → Nat) (g : Nat → Nat → Int32) (z : Nat → Nat) (k : Nat) (lo : Int32) (hi : Int32) (u0 : Nat) (hk : k < (z 0)) (hc : (z 0) ≤ 16) (hlo : ¬ lo < nI 0 ∧ lo ≤ nI 999) (hhi : ¬ hi < lo ∧ hi ≤ nI 999) (hE : ∀ k, k < (z 1) → q_r ((g 14) k) 16 ∧ q_r ((g 15) k) 16) (ht : (z 1) ≤ 40) (hst : dtH u0 (g 14) (g 15) (g 16) (upd (g 12) k (mx ((g 12) k) lo)) (upd (g 13) k (mn ((g 13) k) hi)) (g 19) (g 20) (z 1) (z 0)) (hd9 : (dtD u0 (g 14) (g 15) (g 16) (upd (g 12) k (mx ((g 12) k) lo)) (upd (g 13) k (mn ((g 13) k) hi)) (g 19) (g 20) (z 1) (z 0)).2.2.1 = true) : q_CI l yX6_find [Cond.code yX6_find cX6_find 5 (some .int)] rm_X6_find D cA [.ref (ad 80), .int (nI k), .int lo, .int hi] (mdW cA ad g z) (nI (mvd (dtD u0 (g 14) (g 15) (g 16) (upd (g 12) k (mx ((g 12) k) lo)) (upd (g 13) k (mn ((g 13) k) hi)) (g 19) (g 20) (z 1) (z 0)).1 (dtD u0 (g 14) (g 15) (g 16) (upd (g 12) k (mx ((g 12) k) lo)) (upd (g 13) k (mn ((g 13) k) hi)) (g 19) (g 20) (z 1) (z 0)).2.1 (g 17) (g 18) (z 0))) (mdW cA ad (gs (gs (gs (gs (gs (gs g 12 (upd (g 12) k (mx ((g 12) k) lo))) 13 (upd (g 13) k (mn ((g 13) k) hi))) 17 (copyTo (g 17) (dtD u0 (g 14) (g 15) (g 16) (upd (g 12) k (mx ((g 12) k) lo)) (upd (g 13) k (mn ((g 13) k) hi)) (g 19) (g 20) (z 1) (z 0)).1 (z 0))) 18 (copyTo (g 18) (dtD u0 (g 14) (g 15) (g 16) (upd (g 12) k (mx ((g 12) k) lo)) (upd (g 13) k (mn ((g 13) k) hi)) (g 19) (g 20) (z 1) (z 0)).2.1 (z 0))) 19 ((dtD u0 (g 14) (g 15) (g 16) (upd (g 12) k (mx ((g 12) k) lo)) (upd (g 13) k (mn ((g 13) k) hi)) (g 19) (g 20) (z 1) (z 0)).1)) 20 ((dtD u0 (g 14) (g 15) (g 16) (upd (g 12) k (mx ((g 12) k) lo)) (upd (g 13) k (mn ((g 13) k) hi)) (g 19) (g 20) (z 1) (z 0)).2.1)) (zs z 4 0)) := by
  refine q_startI RX6 (by decide +kernel) rfl (Nat.le_of_ble_eq_true rfl) ?_
  intro p e s m below meth c A args H locs ls hx hb hr hml hown hT hlk hP hK hD hA hS hl
  have hl : lv_has ls 5 [(0, .ref (ad 80)), (1, .int (nI k)), (2, .int lo), (3, .int hi)] := hl
  refine lv_aload_n hx hb dX6_find_0 rfl (lv_at hl 0 rfl) ?_
  refine lv_aload_n hx hb dX6_find_1 rfl (lv_at hl 0 rfl) ?_
  refine lv_iload_n hx hb dX6_find_2 rfl (lv_at hl 1 rfl) ?_
  refine q_callIW (As := [.int (nI k)]) (r := q_b (mB (nI k) (z 0))) (w1 := mdW cA ad g z) hx hb hml hown hT hK hP hD hS hA (c_X6_isMention l D cA ad g z (nI k) (show (z 0) ≤ 16 by omega)) k_X6_isMention kl_X6_111 (q0 := 0) rfl rfl rfl ((mdW_adr _ _ _ _).trans (mdW_adr _ _ _ _).symm) hl rfl rfl (Nat.le_of_ble_eq_true rfl) ⟨⟨rfl, rfl⟩, Nat.le_of_ble_eq_true rfl, Nat.le_of_ble_eq_true rfl⟩ ⟨Nat.zero_le _, Nat.zero_le _⟩ dX6_find_3 (fun H locs hP hD hS => ?_)
  refine lv_if_ne (tgt := 13) hx hb dX6_find_6 (by decide) (fun c_6 => ?_) (fun c_6 => ?_)
  · have c_6 := q_b0n c_6
    refine lv_aload_n hx hb dX6_find_13 rfl (lv_at hl 0 rfl) ?_
    refine lv_iload_n hx hb dX6_find_14 rfl (lv_at hl 2 rfl) ?_
    refine lv_iload_n hx hb dX6_find_15 rfl (lv_at hl 3 rfl) ?_
    refine q_callIW (As := [.int lo, .int hi]) (r := q_b (iN lo (nI 0) (nI 999) && iN hi lo (nI 999))) (w1 := mdW cA ad g z) hx hb hml hown hT hK hP hD hS hA (c_X6_areYears l D cA ad g z lo hi) k_X6_areYears kl_X6_125 (q0 := 0) rfl rfl rfl ((mdW_adr _ _ _ _).trans (mdW_adr _ _ _ _).symm) hl rfl rfl (Nat.le_of_ble_eq_true rfl) ⟨⟨rfl, rfl⟩, Nat.le_of_ble_eq_true rfl, Nat.le_of_ble_eq_true rfl⟩ ⟨Nat.zero_le _, Nat.zero_le _⟩ dX6_find_16 (fun H locs hP hD hS => ?_)
    refine lv_if_ne (tgt := 26) hx hb dX6_find_19 (by decide) (fun c_19 => ?_) (fun c_19 => ?_)
    · have c_19 := q_b0n c_19
      refine lv_iconst (v := nI 0) hx hb dX6_find_26 (by decide +kernel) ?_
      refine q_put (ty := .int) (ws1 := mdW cA ad g (zs z 4 0)) hx hb hT hown hK hP hD hS kw_X6 tyX6_ok nmX6 0 rfl rfl 27 (by decide) kf_X6_82 rfl rfl (by decide +kernel) rfl rfl (Nat.le_of_ble_eq_true rfl) rfl dX6_find_27 (fun H locs hP hD hS => ?_)
      refine lv_aload_n hx hb dX6_find_30 rfl (lv_at hl 0 rfl) ?_
      refine q_get hx hb hT hown hK hP kw_X6 0 rfl rfl 27 (by decide) kf_X6_82 rfl (v := .int (nI 0)) rfl dX6_find_31 ?_
      refine lv_if_le (tgt := 39) hx hb dX6_find_34 (by decide) (fun c_34 => ?_) (fun c_34 => ?_)
      · have c_34 := nI_le1 (a := 0) (b := 0) (by omega) (by omega) c_34
        refine lv_aload_n hx hb dX6_find_39 rfl (lv_at hl 0 rfl) ?_
        refine lv_iload_n hx hb dX6_find_40 rfl (lv_at hl 1 rfl) ?_
        refine lv_iload_n hx hb dX6_find_41 rfl (lv_at hl 2 rfl) ?_
        refine lv_iload_n hx hb dX6_find_42 rfl (lv_at hl 3 rfl) ?_
        refine lv_iconst (v := nI 1) hx hb dX6_find_43 (by decide +kernel) ?_
        refine q_callIW (As := [.int (nI k), .int lo, .int hi, .int (nI 1)]) (r := nI (mvd (dtD u0 (g 14) (g 15) (g 16) (upd (g 12) k (mx ((g 12) k) lo)) (upd (g 13) k (mn ((g 13) k) hi)) (g 19) (g 20) (z 1) (z 0)).1 (dtD u0 (g 14) (g 15) (g 16) (upd (g 12) k (mx ((g 12) k) lo)) (upd (g 13) k (mn ((g 13) k) hi)) (g 19) (g 20) (z 1) (z 0)).2.1 (g 17) (g 18) (z 0))) (w1 := mdW cA ad (gs (gs (gs (gs (gs (gs g 12 (upd (g 12) k (mx ((g 12) k) lo))) 13 (upd (g 13) k (mn ((g 13) k) hi))) 17 (copyTo (g 17) (dtD u0 (g 14) (g 15) (g 16) (upd (g 12) k (mx ((g 12) k) lo)) (upd (g 13) k (mn ((g 13) k) hi)) (g 19) (g 20) (z 1) (z 0)).1 (z 0))) 18 (copyTo (g 18) (dtD u0 (g 14) (g 15) (g 16) (upd (g 12) k (mx ((g 12) k) lo)) (upd (g 13) k (mn ((g 13) k) hi)) (g 19) (g 20) (z 1) (z 0)).2.1 (z 0))) 19 ((dtD u0 (g 14) (g 15) (g 16) (upd (g 12) k (mx ((g 12) k) lo)) (upd (g 13) k (mn ((g 13) k) hi)) (g 19) (g 20) (z 1) (z 0)).1)) 20 ((dtD u0 (g 14) (g 15) (g 16) (upd (g 12) k (mx ((g 12) k) lo)) (upd (g 13) k (mn ((g 13) k) hi)) (g 19) (g 20) (z 1) (z 0)).2.1)) (zs z 4 0)) hx hb hml hown hT hK hP hD hS hA (c_X6_findsT1 l D cA ad g (zs z 4 0) k lo hi u0 (show k < (z 0) by omega) (show (z 0) ≤ 16 by omega) hE (show (z 1) ≤ 40 by omega) hst hd9) k_X6_finds kl_X6_128 (q0 := 0) rfl rfl rfl ((mdW_adr _ _ _ _).trans (mdW_adr _ _ _ _).symm) hl rfl rfl (Nat.le_of_ble_eq_true rfl) ⟨⟨rfl, rfl⟩, Nat.le_of_ble_eq_true rfl, Nat.le_of_ble_eq_true rfl⟩ ⟨Nat.zero_le _, Nat.zero_le _⟩ dX6_find_44 (fun H locs hP hD hS => ?_)
        refine lv_istore (lv' := [(4, .int (nI (mvd (dtD u0 (g 14) (g 15) (g 16) (upd (g 12) k (mx ((g 12) k) lo)) (upd (g 13) k (mn ((g 13) k) hi)) (g 19) (g 20) (z 1) (z 0)).1 (dtD u0 (g 14) (g 15) (g 16) (upd (g 12) k (mx ((g 12) k) lo)) (upd (g 13) k (mn ((g 13) k) hi)) (g 19) (g 20) (z 1) (z 0)).2.1 (g 17) (g 18) (z 0)))), (0, .ref (ad 80)), (1, .int (nI k)), (2, .int lo), (3, .int hi)]) hx hb dX6_find_47 hl (by decide) rfl (fun ls hl => ?_)
        refine lv_aload_n hx hb dX6_find_49 rfl (lv_at hl 1 rfl) ?_
        refine lv_iload hx hb dX6_find_50 (lv_at hl 0 rfl) ?_
        refine lv_iconst (v := (-1)) hx hb dX6_find_52 (by decide +kernel) ?_
        refine lv_icmp_ne (tgt := 60) hx hb dX6_find_53 (by decide) (fun c_53 => ?_) (fun c_53 => ?_)
        · refine lv_iconst (v := nI 0) hx hb dX6_find_60 (by decide +kernel) ?_
          refine q_put (ty := .int) (ws1 := mdW cA ad (gs (gs (gs (gs (gs (gs g 12 (upd (g 12) k (mx ((g 12) k) lo))) 13 (upd (g 13) k (mn ((g 13) k) hi))) 17 (copyTo (g 17) (dtD u0 (g 14) (g 15) (g 16) (upd (g 12) k (mx ((g 12) k) lo)) (upd (g 13) k (mn ((g 13) k) hi)) (g 19) (g 20) (z 1) (z 0)).1 (z 0))) 18 (copyTo (g 18) (dtD u0 (g 14) (g 15) (g 16) (upd (g 12) k (mx ((g 12) k) lo)) (upd (g 13) k (mn ((g 13) k) hi)) (g 19) (g 20) (z 1) (z 0)).2.1 (z 0))) 19 ((dtD u0 (g 14) (g 15) (g 16) (upd (g 12) k (mx ((g 12) k) lo)) (upd (g 13) k (mn ((g 13) k) hi)) (g 19) (g 20) (z 1) (z 0)).1)) 20 ((dtD u0 (g 14) (g 15) (g 16) (upd (g 12) k (mx ((g 12) k) lo)) (upd (g 13) k (mn ((g 13) k) hi)) (g 19) (g 20) (z 1) (z 0)).2.1)) (zs z 4 0)) hx hb hT hown hK hP hD hS kw_X6 tyX6_ok nmX6 0 rfl rfl 27 (by decide) kf_X6_82 rfl rfl (by decide +kernel) rfl rfl (Nat.le_of_ble_eq_true rfl) rfl dX6_find_61 (fun H locs hP hD hS => ?_)
          refine lv_aload_n hx hb dX6_find_64 rfl (lv_at hl 1 rfl) ?_
          refine q_get hx hb hT hown hK hP kw_X6 0 rfl rfl 27 (by decide) kf_X6_82 rfl (v := .int (nI 0)) rfl dX6_find_65 ?_
          refine lv_if_le (tgt := 75) hx hb dX6_find_68 (by decide) (fun c_68 => ?_) (fun c_68 => ?_)
          · have c_68 := nI_le1 (a := 0) (b := 0) (by omega) (by omega) c_68
            refine lv_iload hx hb dX6_find_75 (lv_at hl 0 rfl) ?_
            exact q_iret hx hb hr hlk (by rfl) hP hS dX6_find_77
          · have c_68 := nI_le0 (a := 0) (b := 0) (by omega) (by omega) c_68
            exfalso; omega
        · exact absurd c_53 (q_nIne (Nat.le_trans (mvd_le _ _ _ _ _) hc))
      · have c_34 := nI_le0 (a := 0) (b := 0) (by omega) (by omega) c_34
        exfalso; omega
    · have c_19 := q_b0e c_19
      exact absurd c_19 (by rw [iN_t hlo, iN_t hhi]; decide)
  · have c_6 := q_b0e c_6
    exact absurd c_6 (mB_F (q_r_nI (by omega)) (by omega))
abbrev rm_X6_findx4 : Room := { frames := 2, cells := 0, slots := 0, locals := 52 }
set_option maxRecDepth 100000 in
set_option maxHeartbeats 4000000 in
theorem c_X6_findx4 (l : Launch) (D : va_G) (cA : ClassId) (ad : Nat → Nat) (g : Nat → Nat → Int32) (z : Nat → Nat) (k : Nat) (lo : Int32) (hi : Int32) (u0 : Nat) (hk : k < (z 0)) (hc : (z 0) ≤ 16) (hlo : ¬ lo < nI 0 ∧ lo ≤ nI 999) (hhi : ¬ hi < lo ∧ hi ≤ nI 999) (hE : ∀ k, k < (z 1) → q_r ((g 14) k) 16 ∧ q_r ((g 15) k) 16) (ht : (z 1) ≤ 40) (hst : dtH u0 (g 14) (g 15) (g 16) (upd (g 12) k (mx ((g 12) k) lo)) (upd (g 13) k (mn ((g 13) k) hi)) (g 19) (g 20) (z 1) (z 0)) (hd9 : (dtD u0 (g 14) (g 15) (g 16) (upd (g 12) k (mx ((g 12) k) lo)) (upd (g 13) k (mn ((g 13) k) hi)) (g 19) (g 20) (z 1) (z 0)).2.2.1 = false) : q_CI l yX6_find [Cond.code yX6_find cX6_find 5 (some .int)] rm_X6_findx4 D cA [.ref (ad 80), .int (nI k), .int lo, .int hi] (mdW cA ad g z) (nI 0) (mdW cA ad (gs (gs g 19 ((dtD u0 (g 14) (g 15) (g 16) (upd (g 12) k (mx ((g 12) k) lo)) (upd (g 13) k (mn ((g 13) k) hi)) (g 19) (g 20) (z 1) (z 0)).1)) 20 ((dtD u0 (g 14) (g 15) (g 16) (upd (g 12) k (mx ((g 12) k) lo)) (upd (g 13) k (mn ((g 13) k) hi)) (g 19) (g 20) (z 1) (z 0)).2.1)) (zs z 4 3)) := by
  refine q_startI RX6 (by decide +kernel) rfl (Nat.le_of_ble_eq_true rfl) ?_
  intro p e s m below meth c A args H locs ls hx hb hr hml hown hT hlk hP hK hD hA hS hl
  have hl : lv_has ls 5 [(0, .ref (ad 80)), (1, .int (nI k)), (2, .int lo), (3, .int hi)] := hl
  refine lv_aload_n hx hb dX6_find_0 rfl (lv_at hl 0 rfl) ?_
  refine lv_aload_n hx hb dX6_find_1 rfl (lv_at hl 0 rfl) ?_
  refine lv_iload_n hx hb dX6_find_2 rfl (lv_at hl 1 rfl) ?_
  refine q_callIW (As := [.int (nI k)]) (r := q_b (mB (nI k) (z 0))) (w1 := mdW cA ad g z) hx hb hml hown hT hK hP hD hS hA (c_X6_isMention l D cA ad g z (nI k) (show (z 0) ≤ 16 by omega)) k_X6_isMention kl_X6_111 (q0 := 0) rfl rfl rfl ((mdW_adr _ _ _ _).trans (mdW_adr _ _ _ _).symm) hl rfl rfl (Nat.le_of_ble_eq_true rfl) ⟨⟨rfl, rfl⟩, Nat.le_of_ble_eq_true rfl, Nat.le_of_ble_eq_true rfl⟩ ⟨Nat.zero_le _, Nat.zero_le _⟩ dX6_find_3 (fun H locs hP hD hS => ?_)
  refine lv_if_ne (tgt := 13) hx hb dX6_find_6 (by decide) (fun c_6 => ?_) (fun c_6 => ?_)
  · have c_6 := q_b0n c_6
    refine lv_aload_n hx hb dX6_find_13 rfl (lv_at hl 0 rfl) ?_
    refine lv_iload_n hx hb dX6_find_14 rfl (lv_at hl 2 rfl) ?_
    refine lv_iload_n hx hb dX6_find_15 rfl (lv_at hl 3 rfl) ?_
    refine q_callIW (As := [.int lo, .int hi]) (r := q_b (iN lo (nI 0) (nI 999) && iN hi lo (nI 999))) (w1 := mdW cA ad g z) hx hb hml hown hT hK hP hD hS hA (c_X6_areYears l D cA ad g z lo hi) k_X6_areYears kl_X6_125 (q0 := 0) rfl rfl rfl ((mdW_adr _ _ _ _).trans (mdW_adr _ _ _ _).symm) hl rfl rfl (Nat.le_of_ble_eq_true rfl) ⟨⟨rfl, rfl⟩, Nat.le_of_ble_eq_true rfl, Nat.le_of_ble_eq_true rfl⟩ ⟨Nat.zero_le _, Nat.zero_le _⟩ dX6_find_16 (fun H locs hP hD hS => ?_)
    refine lv_if_ne (tgt := 26) hx hb dX6_find_19 (by decide) (fun c_19 => ?_) (fun c_19 => ?_)
    · have c_19 := q_b0n c_19
      refine lv_iconst (v := nI 0) hx hb dX6_find_26 (by decide +kernel) ?_
      refine q_put (ty := .int) (ws1 := mdW cA ad g (zs z 4 0)) hx hb hT hown hK hP hD hS kw_X6 tyX6_ok nmX6 0 rfl rfl 27 (by decide) kf_X6_82 rfl rfl (by decide +kernel) rfl rfl (Nat.le_of_ble_eq_true rfl) rfl dX6_find_27 (fun H locs hP hD hS => ?_)
      refine lv_aload_n hx hb dX6_find_30 rfl (lv_at hl 0 rfl) ?_
      refine q_get hx hb hT hown hK hP kw_X6 0 rfl rfl 27 (by decide) kf_X6_82 rfl (v := .int (nI 0)) rfl dX6_find_31 ?_
      refine lv_if_le (tgt := 39) hx hb dX6_find_34 (by decide) (fun c_34 => ?_) (fun c_34 => ?_)
      · have c_34 := nI_le1 (a := 0) (b := 0) (by omega) (by omega) c_34
        refine lv_aload_n hx hb dX6_find_39 rfl (lv_at hl 0 rfl) ?_
        refine lv_iload_n hx hb dX6_find_40 rfl (lv_at hl 1 rfl) ?_
        refine lv_iload_n hx hb dX6_find_41 rfl (lv_at hl 2 rfl) ?_
        refine lv_iload_n hx hb dX6_find_42 rfl (lv_at hl 3 rfl) ?_
        refine lv_iconst (v := nI 1) hx hb dX6_find_43 (by decide +kernel) ?_
        refine q_callIW (As := [.int (nI k), .int lo, .int hi, .int (nI 1)]) (r := (-1)) (w1 := mdW cA ad (gs (gs g 19 ((dtD u0 (g 14) (g 15) (g 16) (upd (g 12) k (mx ((g 12) k) lo)) (upd (g 13) k (mn ((g 13) k) hi)) (g 19) (g 20) (z 1) (z 0)).1)) 20 ((dtD u0 (g 14) (g 15) (g 16) (upd (g 12) k (mx ((g 12) k) lo)) (upd (g 13) k (mn ((g 13) k) hi)) (g 19) (g 20) (z 1) (z 0)).2.1)) (zs z 4 0)) hx hb hml hown hT hK hP hD hS hA (c_X6_findsT0 l D cA ad g (zs z 4 0) k lo hi u0 (show k < (z 0) by omega) (show (z 0) ≤ 16 by omega) hE (show (z 1) ≤ 40 by omega) hst hd9) k_X6_finds kl_X6_128 (q0 := 0) rfl rfl rfl ((mdW_adr _ _ _ _).trans (mdW_adr _ _ _ _).symm) hl rfl rfl (Nat.le_of_ble_eq_true rfl) ⟨⟨rfl, rfl⟩, Nat.le_of_ble_eq_true rfl, Nat.le_of_ble_eq_true rfl⟩ ⟨Nat.zero_le _, Nat.zero_le _⟩ dX6_find_44 (fun H locs hP hD hS => ?_)
        refine lv_istore (lv' := [(4, .int (-1)), (0, .ref (ad 80)), (1, .int (nI k)), (2, .int lo), (3, .int hi)]) hx hb dX6_find_47 hl (by decide) rfl (fun ls hl => ?_)
        refine lv_aload_n hx hb dX6_find_49 rfl (lv_at hl 1 rfl) ?_
        refine lv_iload hx hb dX6_find_50 (lv_at hl 0 rfl) ?_
        refine lv_iconst (v := (-1)) hx hb dX6_find_52 (by decide +kernel) ?_
        refine lv_icmp_ne (tgt := 60) hx hb dX6_find_53 (by decide) (fun c_53 => ?_) (fun c_53 => ?_)
        · exact absurd rfl c_53
        · refine lv_iconst (v := nI 3) hx hb dX6_find_56 (by decide +kernel) ?_
          refine lv_goto (tgt := 61) hx hb dX6_find_57 (by decide) ?_
          refine q_put (ty := .int) (ws1 := mdW cA ad (gs (gs g 19 ((dtD u0 (g 14) (g 15) (g 16) (upd (g 12) k (mx ((g 12) k) lo)) (upd (g 13) k (mn ((g 13) k) hi)) (g 19) (g 20) (z 1) (z 0)).1)) 20 ((dtD u0 (g 14) (g 15) (g 16) (upd (g 12) k (mx ((g 12) k) lo)) (upd (g 13) k (mn ((g 13) k) hi)) (g 19) (g 20) (z 1) (z 0)).2.1)) (zs z 4 3)) hx hb hT hown hK hP hD hS kw_X6 tyX6_ok nmX6 0 rfl rfl 27 (by decide) kf_X6_82 rfl rfl (by decide +kernel) rfl rfl (Nat.le_of_ble_eq_true rfl) rfl dX6_find_61 (fun H locs hP hD hS => ?_)
          refine lv_aload_n hx hb dX6_find_64 rfl (lv_at hl 1 rfl) ?_
          refine q_get hx hb hT hown hK hP kw_X6 0 rfl rfl 27 (by decide) kf_X6_82 rfl (v := .int (nI 3)) rfl dX6_find_65 ?_
          refine lv_if_le (tgt := 75) hx hb dX6_find_68 (by decide) (fun c_68 => ?_) (fun c_68 => ?_)
          · have c_68 := nI_le1 (a := 3) (b := 0) (by omega) (by omega) c_68
            exfalso; omega
          · have c_68 := nI_le0 (a := 3) (b := 0) (by omega) (by omega) c_68
            refine lv_iconst (v := nI 0) hx hb dX6_find_71 (by decide +kernel) ?_
            refine lv_goto (tgt := 77) hx hb dX6_find_72 (by decide) ?_
            exact q_iret hx hb hr hlk (by rfl) hP hS dX6_find_77
      · have c_34 := nI_le0 (a := 0) (b := 0) (by omega) (by omega) c_34
        exfalso; omega
    · have c_19 := q_b0e c_19
      exact absurd c_19 (by rw [iN_t hlo, iN_t hhi]; decide)
  · have c_6 := q_b0e c_6
    exact absurd c_6 (mB_F (q_r_nI (by omega)) (by omega))
abbrev rm_X6_wouldMove : Room := { frames := 2, cells := 0, slots := 0, locals := 52 }
set_option maxRecDepth 100000 in
set_option maxHeartbeats 4000000 in
theorem c_X6_wouldMove (l : Launch) (D : va_G) (cA : ClassId) (ad : Nat → Nat) (g : Nat → Nat → Int32) (z : Nat → Nat) (k : Nat) (lo : Int32) (hi : Int32) (u0 : Nat) (hk : k < (z 0)) (hc : (z 0) ≤ 16) (hlo : ¬ lo < nI 0 ∧ lo ≤ nI 999) (hhi : ¬ hi < lo ∧ hi ≤ nI 999) (hE : ∀ k, k < (z 1) → q_r ((g 14) k) 16 ∧ q_r ((g 15) k) 16) (ht : (z 1) ≤ 40) (hst : dtH u0 (g 14) (g 15) (g 16) (upd (g 12) k (mx ((g 12) k) lo)) (upd (g 13) k (mn ((g 13) k) hi)) (g 19) (g 20) (z 1) (z 0)) (hd9 : (dtD u0 (g 14) (g 15) (g 16) (upd (g 12) k (mx ((g 12) k) lo)) (upd (g 13) k (mn ((g 13) k) hi)) (g 19) (g 20) (z 1) (z 0)).2.2.1 = true) : q_CI l yX6_wouldMove [Cond.code yX6_wouldMove cX6_wouldMove 4 (some .int)] rm_X6_wouldMove D cA [.ref (ad 80), .int (nI k), .int lo, .int hi] (mdW cA ad g z) (nI (mvd (dtD u0 (g 14) (g 15) (g 16) (upd (g 12) k (mx ((g 12) k) lo)) (upd (g 13) k (mn ((g 13) k) hi)) (g 19) (g 20) (z 1) (z 0)).1 (dtD u0 (g 14) (g 15) (g 16) (upd (g 12) k (mx ((g 12) k) lo)) (upd (g 13) k (mn ((g 13) k) hi)) (g 19) (g 20) (z 1) (z 0)).2.1 (g 17) (g 18) (z 0))) (mdW cA ad (gs (gs g 19 ((dtD u0 (g 14) (g 15) (g 16) (upd (g 12) k (mx ((g 12) k) lo)) (upd (g 13) k (mn ((g 13) k) hi)) (g 19) (g 20) (z 1) (z 0)).1)) 20 ((dtD u0 (g 14) (g 15) (g 16) (upd (g 12) k (mx ((g 12) k) lo)) (upd (g 13) k (mn ((g 13) k) hi)) (g 19) (g 20) (z 1) (z 0)).2.1)) (zs z 4 0)) := by
  refine q_startI RX6 (by decide +kernel) rfl (Nat.le_of_ble_eq_true rfl) ?_
  intro p e s m below meth c A args H locs ls hx hb hr hml hown hT hlk hP hK hD hA hS hl
  have hl : lv_has ls 4 [(0, .ref (ad 80)), (1, .int (nI k)), (2, .int lo), (3, .int hi)] := hl
  refine lv_aload_n hx hb dX6_wouldMove_0 rfl (lv_at hl 0 rfl) ?_
  refine lv_aload_n hx hb dX6_wouldMove_1 rfl (lv_at hl 0 rfl) ?_
  refine lv_iload_n hx hb dX6_wouldMove_2 rfl (lv_at hl 1 rfl) ?_
  refine q_callIW (As := [.int (nI k)]) (r := q_b (mB (nI k) (z 0))) (w1 := mdW cA ad g z) hx hb hml hown hT hK hP hD hS hA (c_X6_isMention l D cA ad g z (nI k) (show (z 0) ≤ 16 by omega)) k_X6_isMention kl_X6_111 (q0 := 0) rfl rfl rfl ((mdW_adr _ _ _ _).trans (mdW_adr _ _ _ _).symm) hl rfl rfl (Nat.le_of_ble_eq_true rfl) ⟨⟨rfl, rfl⟩, Nat.le_of_ble_eq_true rfl, Nat.le_of_ble_eq_true rfl⟩ ⟨Nat.zero_le _, Nat.zero_le _⟩ dX6_wouldMove_3 (fun H locs hP hD hS => ?_)
  refine lv_if_ne (tgt := 13) hx hb dX6_wouldMove_6 (by decide) (fun c_6 => ?_) (fun c_6 => ?_)
  · have c_6 := q_b0n c_6
    refine lv_aload_n hx hb dX6_wouldMove_13 rfl (lv_at hl 0 rfl) ?_
    refine lv_iload_n hx hb dX6_wouldMove_14 rfl (lv_at hl 2 rfl) ?_
    refine lv_iload_n hx hb dX6_wouldMove_15 rfl (lv_at hl 3 rfl) ?_
    refine q_callIW (As := [.int lo, .int hi]) (r := q_b (iN lo (nI 0) (nI 999) && iN hi lo (nI 999))) (w1 := mdW cA ad g z) hx hb hml hown hT hK hP hD hS hA (c_X6_areYears l D cA ad g z lo hi) k_X6_areYears kl_X6_125 (q0 := 0) rfl rfl rfl ((mdW_adr _ _ _ _).trans (mdW_adr _ _ _ _).symm) hl rfl rfl (Nat.le_of_ble_eq_true rfl) ⟨⟨rfl, rfl⟩, Nat.le_of_ble_eq_true rfl, Nat.le_of_ble_eq_true rfl⟩ ⟨Nat.zero_le _, Nat.zero_le _⟩ dX6_wouldMove_16 (fun H locs hP hD hS => ?_)
    refine lv_if_ne (tgt := 26) hx hb dX6_wouldMove_19 (by decide) (fun c_19 => ?_) (fun c_19 => ?_)
    · have c_19 := q_b0n c_19
      refine lv_iconst (v := nI 0) hx hb dX6_wouldMove_26 (by decide +kernel) ?_
      refine q_put (ty := .int) (ws1 := mdW cA ad g (zs z 4 0)) hx hb hT hown hK hP hD hS kw_X6 tyX6_ok nmX6 0 rfl rfl 27 (by decide) kf_X6_82 rfl rfl (by decide +kernel) rfl rfl (Nat.le_of_ble_eq_true rfl) rfl dX6_wouldMove_27 (fun H locs hP hD hS => ?_)
      refine lv_aload_n hx hb dX6_wouldMove_30 rfl (lv_at hl 0 rfl) ?_
      refine q_get hx hb hT hown hK hP kw_X6 0 rfl rfl 27 (by decide) kf_X6_82 rfl (v := .int (nI 0)) rfl dX6_wouldMove_31 ?_
      refine lv_if_le (tgt := 41) hx hb dX6_wouldMove_34 (by decide) (fun c_34 => ?_) (fun c_34 => ?_)
      · have c_34 := nI_le1 (a := 0) (b := 0) (by omega) (by omega) c_34
        refine lv_aload_n hx hb dX6_wouldMove_41 rfl (lv_at hl 0 rfl) ?_
        refine lv_iload_n hx hb dX6_wouldMove_42 rfl (lv_at hl 1 rfl) ?_
        refine lv_iload_n hx hb dX6_wouldMove_43 rfl (lv_at hl 2 rfl) ?_
        refine lv_iload_n hx hb dX6_wouldMove_44 rfl (lv_at hl 3 rfl) ?_
        refine lv_iconst (v := nI 0) hx hb dX6_wouldMove_45 (by decide +kernel) ?_
        refine q_callIW (As := [.int (nI k), .int lo, .int hi, .int (nI 0)]) (r := nI (mvd (dtD u0 (g 14) (g 15) (g 16) (upd (g 12) k (mx ((g 12) k) lo)) (upd (g 13) k (mn ((g 13) k) hi)) (g 19) (g 20) (z 1) (z 0)).1 (dtD u0 (g 14) (g 15) (g 16) (upd (g 12) k (mx ((g 12) k) lo)) (upd (g 13) k (mn ((g 13) k) hi)) (g 19) (g 20) (z 1) (z 0)).2.1 (g 17) (g 18) (z 0))) (w1 := mdW cA ad (gs (gs g 19 ((dtD u0 (g 14) (g 15) (g 16) (upd (g 12) k (mx ((g 12) k) lo)) (upd (g 13) k (mn ((g 13) k) hi)) (g 19) (g 20) (z 1) (z 0)).1)) 20 ((dtD u0 (g 14) (g 15) (g 16) (upd (g 12) k (mx ((g 12) k) lo)) (upd (g 13) k (mn ((g 13) k) hi)) (g 19) (g 20) (z 1) (z 0)).2.1)) (zs z 4 0)) hx hb hml hown hT hK hP hD hS hA (c_X6_findsF1 l D cA ad g (zs z 4 0) k lo hi u0 (show k < (z 0) by omega) (show (z 0) ≤ 16 by omega) hE (show (z 1) ≤ 40 by omega) hst hd9) k_X6_finds kl_X6_128 (q0 := 0) rfl rfl rfl ((mdW_adr _ _ _ _).trans (mdW_adr _ _ _ _).symm) hl rfl rfl (Nat.le_of_ble_eq_true rfl) ⟨⟨rfl, rfl⟩, Nat.le_of_ble_eq_true rfl, Nat.le_of_ble_eq_true rfl⟩ ⟨Nat.zero_le _, Nat.zero_le _⟩ dX6_wouldMove_46 (fun H locs hP hD hS => ?_)
        exact q_iret hx hb hr hlk (by rfl) hP hS dX6_wouldMove_49
      · have c_34 := nI_le0 (a := 0) (b := 0) (by omega) (by omega) c_34
        exfalso; omega
    · have c_19 := q_b0e c_19
      exact absurd c_19 (by rw [iN_t hlo, iN_t hhi]; decide)
  · have c_6 := q_b0e c_6
    exact absurd c_6 (mB_F (q_r_nI (by omega)) (by omega))
abbrev rm_X6_wouldMoven : Room := { frames := 2, cells := 0, slots := 0, locals := 52 }
set_option maxRecDepth 100000 in
set_option maxHeartbeats 4000000 in
theorem c_X6_wouldMoven (l : Launch) (D : va_G) (cA : ClassId) (ad : Nat → Nat) (g : Nat → Nat → Int32) (z : Nat → Nat) (k : Nat) (lo : Int32) (hi : Int32) (u0 : Nat) (hk : k < (z 0)) (hc : (z 0) ≤ 16) (hlo : ¬ lo < nI 0 ∧ lo ≤ nI 999) (hhi : ¬ hi < lo ∧ hi ≤ nI 999) (hE : ∀ k, k < (z 1) → q_r ((g 14) k) 16 ∧ q_r ((g 15) k) 16) (ht : (z 1) ≤ 40) (hst : dtH u0 (g 14) (g 15) (g 16) (upd (g 12) k (mx ((g 12) k) lo)) (upd (g 13) k (mn ((g 13) k) hi)) (g 19) (g 20) (z 1) (z 0)) (hd9 : (dtD u0 (g 14) (g 15) (g 16) (upd (g 12) k (mx ((g 12) k) lo)) (upd (g 13) k (mn ((g 13) k) hi)) (g 19) (g 20) (z 1) (z 0)).2.2.1 = false) : q_CI l yX6_wouldMove [Cond.code yX6_wouldMove cX6_wouldMove 4 (some .int)] rm_X6_wouldMoven D cA [.ref (ad 80), .int (nI k), .int lo, .int hi] (mdW cA ad g z) (-1) (mdW cA ad (gs (gs g 19 ((dtD u0 (g 14) (g 15) (g 16) (upd (g 12) k (mx ((g 12) k) lo)) (upd (g 13) k (mn ((g 13) k) hi)) (g 19) (g 20) (z 1) (z 0)).1)) 20 ((dtD u0 (g 14) (g 15) (g 16) (upd (g 12) k (mx ((g 12) k) lo)) (upd (g 13) k (mn ((g 13) k) hi)) (g 19) (g 20) (z 1) (z 0)).2.1)) (zs z 4 0)) := by
  refine q_startI RX6 (by decide +kernel) rfl (Nat.le_of_ble_eq_true rfl) ?_
  intro p e s m below meth c A args H locs ls hx hb hr hml hown hT hlk hP hK hD hA hS hl
  have hl : lv_has ls 4 [(0, .ref (ad 80)), (1, .int (nI k)), (2, .int lo), (3, .int hi)] := hl
  refine lv_aload_n hx hb dX6_wouldMove_0 rfl (lv_at hl 0 rfl) ?_
  refine lv_aload_n hx hb dX6_wouldMove_1 rfl (lv_at hl 0 rfl) ?_
  refine lv_iload_n hx hb dX6_wouldMove_2 rfl (lv_at hl 1 rfl) ?_
  refine q_callIW (As := [.int (nI k)]) (r := q_b (mB (nI k) (z 0))) (w1 := mdW cA ad g z) hx hb hml hown hT hK hP hD hS hA (c_X6_isMention l D cA ad g z (nI k) (show (z 0) ≤ 16 by omega)) k_X6_isMention kl_X6_111 (q0 := 0) rfl rfl rfl ((mdW_adr _ _ _ _).trans (mdW_adr _ _ _ _).symm) hl rfl rfl (Nat.le_of_ble_eq_true rfl) ⟨⟨rfl, rfl⟩, Nat.le_of_ble_eq_true rfl, Nat.le_of_ble_eq_true rfl⟩ ⟨Nat.zero_le _, Nat.zero_le _⟩ dX6_wouldMove_3 (fun H locs hP hD hS => ?_)
  refine lv_if_ne (tgt := 13) hx hb dX6_wouldMove_6 (by decide) (fun c_6 => ?_) (fun c_6 => ?_)
  · have c_6 := q_b0n c_6
    refine lv_aload_n hx hb dX6_wouldMove_13 rfl (lv_at hl 0 rfl) ?_
    refine lv_iload_n hx hb dX6_wouldMove_14 rfl (lv_at hl 2 rfl) ?_
    refine lv_iload_n hx hb dX6_wouldMove_15 rfl (lv_at hl 3 rfl) ?_
    refine q_callIW (As := [.int lo, .int hi]) (r := q_b (iN lo (nI 0) (nI 999) && iN hi lo (nI 999))) (w1 := mdW cA ad g z) hx hb hml hown hT hK hP hD hS hA (c_X6_areYears l D cA ad g z lo hi) k_X6_areYears kl_X6_125 (q0 := 0) rfl rfl rfl ((mdW_adr _ _ _ _).trans (mdW_adr _ _ _ _).symm) hl rfl rfl (Nat.le_of_ble_eq_true rfl) ⟨⟨rfl, rfl⟩, Nat.le_of_ble_eq_true rfl, Nat.le_of_ble_eq_true rfl⟩ ⟨Nat.zero_le _, Nat.zero_le _⟩ dX6_wouldMove_16 (fun H locs hP hD hS => ?_)
    refine lv_if_ne (tgt := 26) hx hb dX6_wouldMove_19 (by decide) (fun c_19 => ?_) (fun c_19 => ?_)
    · have c_19 := q_b0n c_19
      refine lv_iconst (v := nI 0) hx hb dX6_wouldMove_26 (by decide +kernel) ?_
      refine q_put (ty := .int) (ws1 := mdW cA ad g (zs z 4 0)) hx hb hT hown hK hP hD hS kw_X6 tyX6_ok nmX6 0 rfl rfl 27 (by decide) kf_X6_82 rfl rfl (by decide +kernel) rfl rfl (Nat.le_of_ble_eq_true rfl) rfl dX6_wouldMove_27 (fun H locs hP hD hS => ?_)
      refine lv_aload_n hx hb dX6_wouldMove_30 rfl (lv_at hl 0 rfl) ?_
      refine q_get hx hb hT hown hK hP kw_X6 0 rfl rfl 27 (by decide) kf_X6_82 rfl (v := .int (nI 0)) rfl dX6_wouldMove_31 ?_
      refine lv_if_le (tgt := 41) hx hb dX6_wouldMove_34 (by decide) (fun c_34 => ?_) (fun c_34 => ?_)
      · have c_34 := nI_le1 (a := 0) (b := 0) (by omega) (by omega) c_34
        refine lv_aload_n hx hb dX6_wouldMove_41 rfl (lv_at hl 0 rfl) ?_
        refine lv_iload_n hx hb dX6_wouldMove_42 rfl (lv_at hl 1 rfl) ?_
        refine lv_iload_n hx hb dX6_wouldMove_43 rfl (lv_at hl 2 rfl) ?_
        refine lv_iload_n hx hb dX6_wouldMove_44 rfl (lv_at hl 3 rfl) ?_
        refine lv_iconst (v := nI 0) hx hb dX6_wouldMove_45 (by decide +kernel) ?_
        refine q_callIW (As := [.int (nI k), .int lo, .int hi, .int (nI 0)]) (r := (-1)) (w1 := mdW cA ad (gs (gs g 19 ((dtD u0 (g 14) (g 15) (g 16) (upd (g 12) k (mx ((g 12) k) lo)) (upd (g 13) k (mn ((g 13) k) hi)) (g 19) (g 20) (z 1) (z 0)).1)) 20 ((dtD u0 (g 14) (g 15) (g 16) (upd (g 12) k (mx ((g 12) k) lo)) (upd (g 13) k (mn ((g 13) k) hi)) (g 19) (g 20) (z 1) (z 0)).2.1)) (zs z 4 0)) hx hb hml hown hT hK hP hD hS hA (c_X6_findsF0 l D cA ad g (zs z 4 0) k lo hi u0 (show k < (z 0) by omega) (show (z 0) ≤ 16 by omega) hE (show (z 1) ≤ 40 by omega) hst hd9) k_X6_finds kl_X6_128 (q0 := 0) rfl rfl rfl ((mdW_adr _ _ _ _).trans (mdW_adr _ _ _ _).symm) hl rfl rfl (Nat.le_of_ble_eq_true rfl) ⟨⟨rfl, rfl⟩, Nat.le_of_ble_eq_true rfl, Nat.le_of_ble_eq_true rfl⟩ ⟨Nat.zero_le _, Nat.zero_le _⟩ dX6_wouldMove_46 (fun H locs hP hD hS => ?_)
        exact q_iret hx hb hr hlk (by rfl) hP hS dX6_wouldMove_49
      · have c_34 := nI_le0 (a := 0) (b := 0) (by omega) (by omega) c_34
        exfalso; omega
    · have c_19 := q_b0e c_19
      exact absurd c_19 (by rw [iN_t hlo, iN_t hhi]; decide)
  · have c_6 := q_b0e c_6
    exact absurd c_6 (mB_F (q_r_nI (by omega)) (by omega))
abbrev rm_X6_findx : Room := { frames := 2, cells := 0, slots := 0, locals := 43 }
set_option maxRecDepth 100000 in
set_option maxHeartbeats 4000000 in
theorem c_X6_findx (l : Launch) (D : va_G) (cA : ClassId) (ad : Nat → Nat) (g : Nat → Nat → Int32) (z : Nat → Nat) (w : Int32) (lo : Int32) (hi : Int32) (hw : ¬ q_r w (z 0)) (hc : (z 0) ≤ 16) : q_CI l yX6_find [Cond.code yX6_find cX6_find 5 (some .int)] rm_X6_findx D cA [.ref (ad 80), .int w, .int lo, .int hi] (mdW cA ad g z) (nI 0) (mdW cA ad g (zs z 4 1)) := by
  refine q_startI RX6 (by decide +kernel) rfl (Nat.le_of_ble_eq_true rfl) ?_
  intro p e s m below meth c A args H locs ls hx hb hr hml hown hT hlk hP hK hD hA hS hl
  have hl : lv_has ls 5 [(0, .ref (ad 80)), (1, .int w), (2, .int lo), (3, .int hi)] := hl
  refine lv_aload_n hx hb dX6_find_0 rfl (lv_at hl 0 rfl) ?_
  refine lv_aload_n hx hb dX6_find_1 rfl (lv_at hl 0 rfl) ?_
  refine lv_iload_n hx hb dX6_find_2 rfl (lv_at hl 1 rfl) ?_
  refine q_callIW (As := [.int w]) (r := q_b (mB w (z 0))) (w1 := mdW cA ad g z) hx hb hml hown hT hK hP hD hS hA (c_X6_isMention l D cA ad g z w (show (z 0) ≤ 16 by omega)) k_X6_isMention kl_X6_111 (q0 := 0) rfl rfl rfl ((mdW_adr _ _ _ _).trans (mdW_adr _ _ _ _).symm) hl rfl rfl (Nat.le_of_ble_eq_true rfl) ⟨⟨rfl, rfl⟩, Nat.le_of_ble_eq_true rfl, Nat.le_of_ble_eq_true rfl⟩ ⟨Nat.zero_le _, Nat.zero_le _⟩ dX6_find_3 (fun H locs hP hD hS => ?_)
  refine lv_if_ne (tgt := 13) hx hb dX6_find_6 (by decide) (fun c_6 => ?_) (fun c_6 => ?_)
  · have c_6 := q_b0n c_6
    exact absurd c_6 (mB_T hw (by omega))
  · have c_6 := q_b0e c_6
    refine lv_iconst (v := nI 1) hx hb dX6_find_9 (by decide +kernel) ?_
    refine lv_goto (tgt := 27) hx hb dX6_find_10 (by decide) ?_
    refine q_put (ty := .int) (ws1 := mdW cA ad g (zs z 4 1)) hx hb hT hown hK hP hD hS kw_X6 tyX6_ok nmX6 0 rfl rfl 27 (by decide) kf_X6_82 rfl rfl (by decide +kernel) rfl rfl (Nat.le_of_ble_eq_true rfl) rfl dX6_find_27 (fun H locs hP hD hS => ?_)
    refine lv_aload_n hx hb dX6_find_30 rfl (lv_at hl 0 rfl) ?_
    refine q_get hx hb hT hown hK hP kw_X6 0 rfl rfl 27 (by decide) kf_X6_82 rfl (v := .int (nI 1)) rfl dX6_find_31 ?_
    refine lv_if_le (tgt := 39) hx hb dX6_find_34 (by decide) (fun c_34 => ?_) (fun c_34 => ?_)
    · have c_34 := nI_le1 (a := 1) (b := 0) (by omega) (by omega) c_34
      exfalso; omega
    · have c_34 := nI_le0 (a := 1) (b := 0) (by omega) (by omega) c_34
      refine lv_iconst (v := nI 0) hx hb dX6_find_37 (by decide +kernel) ?_
      exact q_iret hx hb hr hlk (by rfl) hP hS dX6_find_38
abbrev rm_X6_findx2 : Room := { frames := 2, cells := 0, slots := 0, locals := 44 }
set_option maxRecDepth 100000 in
set_option maxHeartbeats 4000000 in
theorem c_X6_findx2 (l : Launch) (D : va_G) (cA : ClassId) (ad : Nat → Nat) (g : Nat → Nat → Int32) (z : Nat → Nat) (w : Int32) (lo : Int32) (hi : Int32) (hw : q_r w (z 0)) (hc : (z 0) ≤ 16) (hlh : ¬ ((¬ lo < nI 0 ∧ lo ≤ nI 999) ∧ (¬ hi < lo ∧ hi ≤ nI 999))) : q_CI l yX6_find [Cond.code yX6_find cX6_find 5 (some .int)] rm_X6_findx2 D cA [.ref (ad 80), .int w, .int lo, .int hi] (mdW cA ad g z) (nI 0) (mdW cA ad g (zs z 4 2)) := by
  refine q_startI RX6 (by decide +kernel) rfl (Nat.le_of_ble_eq_true rfl) ?_
  intro p e s m below meth c A args H locs ls hx hb hr hml hown hT hlk hP hK hD hA hS hl
  have hl : lv_has ls 5 [(0, .ref (ad 80)), (1, .int w), (2, .int lo), (3, .int hi)] := hl
  refine lv_aload_n hx hb dX6_find_0 rfl (lv_at hl 0 rfl) ?_
  refine lv_aload_n hx hb dX6_find_1 rfl (lv_at hl 0 rfl) ?_
  refine lv_iload_n hx hb dX6_find_2 rfl (lv_at hl 1 rfl) ?_
  refine q_callIW (As := [.int w]) (r := q_b (mB w (z 0))) (w1 := mdW cA ad g z) hx hb hml hown hT hK hP hD hS hA (c_X6_isMention l D cA ad g z w (show (z 0) ≤ 16 by omega)) k_X6_isMention kl_X6_111 (q0 := 0) rfl rfl rfl ((mdW_adr _ _ _ _).trans (mdW_adr _ _ _ _).symm) hl rfl rfl (Nat.le_of_ble_eq_true rfl) ⟨⟨rfl, rfl⟩, Nat.le_of_ble_eq_true rfl, Nat.le_of_ble_eq_true rfl⟩ ⟨Nat.zero_le _, Nat.zero_le _⟩ dX6_find_3 (fun H locs hP hD hS => ?_)
  refine lv_if_ne (tgt := 13) hx hb dX6_find_6 (by decide) (fun c_6 => ?_) (fun c_6 => ?_)
  · have c_6 := q_b0n c_6
    refine lv_aload_n hx hb dX6_find_13 rfl (lv_at hl 0 rfl) ?_
    refine lv_iload_n hx hb dX6_find_14 rfl (lv_at hl 2 rfl) ?_
    refine lv_iload_n hx hb dX6_find_15 rfl (lv_at hl 3 rfl) ?_
    refine q_callIW (As := [.int lo, .int hi]) (r := q_b (iN lo (nI 0) (nI 999) && iN hi lo (nI 999))) (w1 := mdW cA ad g z) hx hb hml hown hT hK hP hD hS hA (c_X6_areYears l D cA ad g z lo hi) k_X6_areYears kl_X6_125 (q0 := 0) rfl rfl rfl ((mdW_adr _ _ _ _).trans (mdW_adr _ _ _ _).symm) hl rfl rfl (Nat.le_of_ble_eq_true rfl) ⟨⟨rfl, rfl⟩, Nat.le_of_ble_eq_true rfl, Nat.le_of_ble_eq_true rfl⟩ ⟨Nat.zero_le _, Nat.zero_le _⟩ dX6_find_16 (fun H locs hP hD hS => ?_)
    refine lv_if_ne (tgt := 26) hx hb dX6_find_19 (by decide) (fun c_19 => ?_) (fun c_19 => ?_)
    · have c_19 := q_b0n c_19
      rw [Bool.and_eq_true] at c_19; exact absurd ⟨iN_e c_19.1, iN_e c_19.2⟩ hlh
    · have c_19 := q_b0e c_19
      refine lv_iconst (v := nI 2) hx hb dX6_find_22 (by decide +kernel) ?_
      refine lv_goto (tgt := 27) hx hb dX6_find_23 (by decide) ?_
      refine q_put (ty := .int) (ws1 := mdW cA ad g (zs z 4 2)) hx hb hT hown hK hP hD hS kw_X6 tyX6_ok nmX6 0 rfl rfl 27 (by decide) kf_X6_82 rfl rfl (by decide +kernel) rfl rfl (Nat.le_of_ble_eq_true rfl) rfl dX6_find_27 (fun H locs hP hD hS => ?_)
      refine lv_aload_n hx hb dX6_find_30 rfl (lv_at hl 0 rfl) ?_
      refine q_get hx hb hT hown hK hP kw_X6 0 rfl rfl 27 (by decide) kf_X6_82 rfl (v := .int (nI 2)) rfl dX6_find_31 ?_
      refine lv_if_le (tgt := 39) hx hb dX6_find_34 (by decide) (fun c_34 => ?_) (fun c_34 => ?_)
      · have c_34 := nI_le1 (a := 2) (b := 0) (by omega) (by omega) c_34
        exfalso; omega
      · have c_34 := nI_le0 (a := 2) (b := 0) (by omega) (by omega) c_34
        refine lv_iconst (v := nI 0) hx hb dX6_find_37 (by decide +kernel) ?_
        exact q_iret hx hb hr hlk (by rfl) hP hS dX6_find_38
  · have c_6 := q_b0e c_6
    exact absurd c_6 (mB_F hw (by omega))
abbrev rm_X6_wouldMovex : Room := { frames := 2, cells := 0, slots := 0, locals := 43 }
set_option maxRecDepth 100000 in
set_option maxHeartbeats 4000000 in
theorem c_X6_wouldMovex (l : Launch) (D : va_G) (cA : ClassId) (ad : Nat → Nat) (g : Nat → Nat → Int32) (z : Nat → Nat) (w : Int32) (lo : Int32) (hi : Int32) (hw : ¬ q_r w (z 0)) (hc : (z 0) ≤ 16) : q_CI l yX6_wouldMove [Cond.code yX6_wouldMove cX6_wouldMove 4 (some .int)] rm_X6_wouldMovex D cA [.ref (ad 80), .int w, .int lo, .int hi] (mdW cA ad g z) (nI 0) (mdW cA ad g (zs z 4 1)) := by
  refine q_startI RX6 (by decide +kernel) rfl (Nat.le_of_ble_eq_true rfl) ?_
  intro p e s m below meth c A args H locs ls hx hb hr hml hown hT hlk hP hK hD hA hS hl
  have hl : lv_has ls 4 [(0, .ref (ad 80)), (1, .int w), (2, .int lo), (3, .int hi)] := hl
  refine lv_aload_n hx hb dX6_wouldMove_0 rfl (lv_at hl 0 rfl) ?_
  refine lv_aload_n hx hb dX6_wouldMove_1 rfl (lv_at hl 0 rfl) ?_
  refine lv_iload_n hx hb dX6_wouldMove_2 rfl (lv_at hl 1 rfl) ?_
  refine q_callIW (As := [.int w]) (r := q_b (mB w (z 0))) (w1 := mdW cA ad g z) hx hb hml hown hT hK hP hD hS hA (c_X6_isMention l D cA ad g z w (show (z 0) ≤ 16 by omega)) k_X6_isMention kl_X6_111 (q0 := 0) rfl rfl rfl ((mdW_adr _ _ _ _).trans (mdW_adr _ _ _ _).symm) hl rfl rfl (Nat.le_of_ble_eq_true rfl) ⟨⟨rfl, rfl⟩, Nat.le_of_ble_eq_true rfl, Nat.le_of_ble_eq_true rfl⟩ ⟨Nat.zero_le _, Nat.zero_le _⟩ dX6_wouldMove_3 (fun H locs hP hD hS => ?_)
  refine lv_if_ne (tgt := 13) hx hb dX6_wouldMove_6 (by decide) (fun c_6 => ?_) (fun c_6 => ?_)
  · have c_6 := q_b0n c_6
    exact absurd c_6 (mB_T hw (by omega))
  · have c_6 := q_b0e c_6
    refine lv_iconst (v := nI 1) hx hb dX6_wouldMove_9 (by decide +kernel) ?_
    refine lv_goto (tgt := 27) hx hb dX6_wouldMove_10 (by decide) ?_
    refine q_put (ty := .int) (ws1 := mdW cA ad g (zs z 4 1)) hx hb hT hown hK hP hD hS kw_X6 tyX6_ok nmX6 0 rfl rfl 27 (by decide) kf_X6_82 rfl rfl (by decide +kernel) rfl rfl (Nat.le_of_ble_eq_true rfl) rfl dX6_wouldMove_27 (fun H locs hP hD hS => ?_)
    refine lv_aload_n hx hb dX6_wouldMove_30 rfl (lv_at hl 0 rfl) ?_
    refine q_get hx hb hT hown hK hP kw_X6 0 rfl rfl 27 (by decide) kf_X6_82 rfl (v := .int (nI 1)) rfl dX6_wouldMove_31 ?_
    refine lv_if_le (tgt := 41) hx hb dX6_wouldMove_34 (by decide) (fun c_34 => ?_) (fun c_34 => ?_)
    · have c_34 := nI_le1 (a := 1) (b := 0) (by omega) (by omega) c_34
      exfalso; omega
    · have c_34 := nI_le0 (a := 1) (b := 0) (by omega) (by omega) c_34
      refine lv_iconst (v := nI 0) hx hb dX6_wouldMove_37 (by decide +kernel) ?_
      refine lv_goto (tgt := 49) hx hb dX6_wouldMove_38 (by decide) ?_
      exact q_iret hx hb hr hlk (by rfl) hP hS dX6_wouldMove_49
abbrev rm_X6_wouldMovex2 : Room := { frames := 2, cells := 0, slots := 0, locals := 44 }
set_option maxRecDepth 100000 in
set_option maxHeartbeats 4000000 in
theorem c_X6_wouldMovex2 (l : Launch) (D : va_G) (cA : ClassId) (ad : Nat → Nat) (g : Nat → Nat → Int32) (z : Nat → Nat) (w : Int32) (lo : Int32) (hi : Int32) (hw : q_r w (z 0)) (hc : (z 0) ≤ 16) (hlh : ¬ ((¬ lo < nI 0 ∧ lo ≤ nI 999) ∧ (¬ hi < lo ∧ hi ≤ nI 999))) : q_CI l yX6_wouldMove [Cond.code yX6_wouldMove cX6_wouldMove 4 (some .int)] rm_X6_wouldMovex2 D cA [.ref (ad 80), .int w, .int lo, .int hi] (mdW cA ad g z) (nI 0) (mdW cA ad g (zs z 4 2)) := by
  refine q_startI RX6 (by decide +kernel) rfl (Nat.le_of_ble_eq_true rfl) ?_
  intro p e s m below meth c A args H locs ls hx hb hr hml hown hT hlk hP hK hD hA hS hl
  have hl : lv_has ls 4 [(0, .ref (ad 80)), (1, .int w), (2, .int lo), (3, .int hi)] := hl
  refine lv_aload_n hx hb dX6_wouldMove_0 rfl (lv_at hl 0 rfl) ?_
  refine lv_aload_n hx hb dX6_wouldMove_1 rfl (lv_at hl 0 rfl) ?_
  refine lv_iload_n hx hb dX6_wouldMove_2 rfl (lv_at hl 1 rfl) ?_
  refine q_callIW (As := [.int w]) (r := q_b (mB w (z 0))) (w1 := mdW cA ad g z) hx hb hml hown hT hK hP hD hS hA (c_X6_isMention l D cA ad g z w (show (z 0) ≤ 16 by omega)) k_X6_isMention kl_X6_111 (q0 := 0) rfl rfl rfl ((mdW_adr _ _ _ _).trans (mdW_adr _ _ _ _).symm) hl rfl rfl (Nat.le_of_ble_eq_true rfl) ⟨⟨rfl, rfl⟩, Nat.le_of_ble_eq_true rfl, Nat.le_of_ble_eq_true rfl⟩ ⟨Nat.zero_le _, Nat.zero_le _⟩ dX6_wouldMove_3 (fun H locs hP hD hS => ?_)
  refine lv_if_ne (tgt := 13) hx hb dX6_wouldMove_6 (by decide) (fun c_6 => ?_) (fun c_6 => ?_)
  · have c_6 := q_b0n c_6
    refine lv_aload_n hx hb dX6_wouldMove_13 rfl (lv_at hl 0 rfl) ?_
    refine lv_iload_n hx hb dX6_wouldMove_14 rfl (lv_at hl 2 rfl) ?_
    refine lv_iload_n hx hb dX6_wouldMove_15 rfl (lv_at hl 3 rfl) ?_
    refine q_callIW (As := [.int lo, .int hi]) (r := q_b (iN lo (nI 0) (nI 999) && iN hi lo (nI 999))) (w1 := mdW cA ad g z) hx hb hml hown hT hK hP hD hS hA (c_X6_areYears l D cA ad g z lo hi) k_X6_areYears kl_X6_125 (q0 := 0) rfl rfl rfl ((mdW_adr _ _ _ _).trans (mdW_adr _ _ _ _).symm) hl rfl rfl (Nat.le_of_ble_eq_true rfl) ⟨⟨rfl, rfl⟩, Nat.le_of_ble_eq_true rfl, Nat.le_of_ble_eq_true rfl⟩ ⟨Nat.zero_le _, Nat.zero_le _⟩ dX6_wouldMove_16 (fun H locs hP hD hS => ?_)
    refine lv_if_ne (tgt := 26) hx hb dX6_wouldMove_19 (by decide) (fun c_19 => ?_) (fun c_19 => ?_)
    · have c_19 := q_b0n c_19
      rw [Bool.and_eq_true] at c_19; exact absurd ⟨iN_e c_19.1, iN_e c_19.2⟩ hlh
    · have c_19 := q_b0e c_19
      refine lv_iconst (v := nI 2) hx hb dX6_wouldMove_22 (by decide +kernel) ?_
      refine lv_goto (tgt := 27) hx hb dX6_wouldMove_23 (by decide) ?_
      refine q_put (ty := .int) (ws1 := mdW cA ad g (zs z 4 2)) hx hb hT hown hK hP hD hS kw_X6 tyX6_ok nmX6 0 rfl rfl 27 (by decide) kf_X6_82 rfl rfl (by decide +kernel) rfl rfl (Nat.le_of_ble_eq_true rfl) rfl dX6_wouldMove_27 (fun H locs hP hD hS => ?_)
      refine lv_aload_n hx hb dX6_wouldMove_30 rfl (lv_at hl 0 rfl) ?_
      refine q_get hx hb hT hown hK hP kw_X6 0 rfl rfl 27 (by decide) kf_X6_82 rfl (v := .int (nI 2)) rfl dX6_wouldMove_31 ?_
      refine lv_if_le (tgt := 41) hx hb dX6_wouldMove_34 (by decide) (fun c_34 => ?_) (fun c_34 => ?_)
      · have c_34 := nI_le1 (a := 2) (b := 0) (by omega) (by omega) c_34
        exfalso; omega
      · have c_34 := nI_le0 (a := 2) (b := 0) (by omega) (by omega) c_34
        refine lv_iconst (v := nI 0) hx hb dX6_wouldMove_37 (by decide +kernel) ?_
        refine lv_goto (tgt := 49) hx hb dX6_wouldMove_38 (by decide) ?_
        exact q_iret hx hb hr hlk (by rfl) hP hS dX6_wouldMove_49
  · have c_6 := q_b0e c_6
    exact absurd c_6 (mB_F hw (by omega))
abbrev rm_X6_mention : Room := { frames := 2, cells := 0, slots := 0, locals := 42 }
set_option maxRecDepth 100000 in
set_option maxHeartbeats 4000000 in
theorem c_X6_mention (l : Launch) (D : va_G) (cA : ClassId) (ad : Nat → Nat) (g : Nat → Nat → Int32) (z : Nat → Nat) (nm : Int32) (fm : Int32) (pl : Int32) (po : Int32) (hpo : po = (-1) ∨ q_r po 8) (hnm : ¬ nm < nI 0 ∧ nm ≤ nI 9) (hfm : ¬ fm < (-1) ∧ fm ≤ nI 9) (hpl : ¬ pl < nI 0 ∧ pl ≤ nI 5) (hz16 : (z 0) < 16) (hz40 : (z 2) < 40) : q_CI l yX6_mention [Cond.code yX6_mention cX6_mention 6 (some .int)] rm_X6_mention D cA [.ref (ad 80), .int nm, .int fm, .int pl, .int po] (mdW cA ad g z) (nI (z 0)) (mdW cA ad (gs (gs (gs (gs (gs (gs (gs (gs (gs (gs (gs g 0 (upd (g 0) (z 0) nm)) 1 (upd (g 1) (z 0) fm)) 2 (upd (g 2) (z 0) pl)) 3 (upd (g 3) (z 0) po)) 4 (upd (g 4) (z 0) (-1))) 12 (upd (g 12) (z 0) (nI 0))) 13 (upd (g 13) (z 0) (nI 999))) 17 (upd (g 17) (z 0) (nI 0))) 18 (upd (g 18) (z 0) (nI 999))) 22 (upd (g 22) (z 0) (nI (z 2)))) 23 (upd (g 23) (z 2) (nI (z 2)))) (zs (zs (zs z 0 ((z 0) + 1)) 2 ((z 2) + 1)) 4 0)) := by
  refine q_startI RX6 (by decide +kernel) rfl (Nat.le_of_ble_eq_true rfl) ?_
  intro p e s m below meth c A args H locs ls hx hb hr hml hown hT hlk hP hK hD hA hS hl
  have hl : lv_has ls 6 [(0, .ref (ad 80)), (1, .int nm), (2, .int fm), (3, .int pl), (4, .int po)] := hl
  have zqJ55 : ∀ (H : Heap) (locs : List Loc) (ls : Array Slot), va_P D vwCl (mdW cA ad g z) H → va_D A (mdW cA ad g z) → va_S A s.heap H locs → lv_has ls 6 [(0, .ref (ad 80)), (1, .int nm), (2, .int fm), (3, .int pl), (4, .int po), (5, .int (q_b (iN nm (nI 0) (nI 9) && iN fm (-1) (nI 9) && iN pl (nI 0) (nI 5))))] → W p l e rm_X6_mention s m args below meth c H locs 0 0 (q_GI D (nI (z 0)) (mdW cA ad (gs (gs (gs (gs (gs (gs (gs (gs (gs (gs (gs g 0 (upd (g 0) (z 0) nm)) 1 (upd (g 1) (z 0) fm)) 2 (upd (g 2) (z 0) pl)) 3 (upd (g 3) (z 0) po)) 4 (upd (g 4) (z 0) (-1))) 12 (upd (g 12) (z 0) (nI 0))) 13 (upd (g 13) (z 0) (nI 999))) 17 (upd (g 17) (z 0) (nI 0))) 18 (upd (g 18) (z 0) (nI 999))) 22 (upd (g 22) (z 0) (nI (z 2)))) 23 (upd (g 23) (z 2) (nI (z 2)))) (zs (zs (zs z 0 ((z 0) + 1)) 2 ((z 2) + 1)) 4 0)) A below args s) (F0 m 55 ls [.ref (ad 80)]) := by
    intro   H locs ls hP hD hS hl
    refine lv_iload hx hb dX6_mention_55 (lv_at hl 5 rfl) ?_
    refine lv_if_ne (tgt := 64) hx hb dX6_mention_57 (by decide) (fun c_57 => ?_) (fun c_57 => ?_)
    · have c_57 := q_b0n c_57
      refine lv_aload_n hx hb dX6_mention_64 rfl (lv_at hl 0 rfl) ?_
      refine q_get hx hb hT hown hK hP kw_X6 0 rfl rfl 0 (by decide) kf_X6_86 rfl (v := .int (nI (z 0))) rfl dX6_mention_65 ?_
      refine lv_bipush (v := nI 16) hx hb dX6_mention_68 (by decide +kernel) ?_
      refine lv_icmp_eq (tgt := 82) hx hb dX6_mention_70 (by decide) (fun c_70 => ?_) (fun c_70 => ?_)
      · have c_70 := nI_eq1 (a := z 0) (b := 16) (by omega) (by omega) c_70
        exfalso; omega
      · have c_70 := nI_eq0 (a := z 0) (b := 16) (by omega) (by omega) c_70
        refine lv_aload_n hx hb dX6_mention_73 rfl (lv_at hl 0 rfl) ?_
        refine q_get hx hb hT hown hK hP kw_X6 0 rfl rfl 21 (by decide) kf_X6_93 rfl (v := .int (nI (z 2))) rfl dX6_mention_74 ?_
        refine lv_bipush (v := nI 40) hx hb dX6_mention_77 (by decide +kernel) ?_
        refine lv_icmp_ne (tgt := 86) hx hb dX6_mention_79 (by decide) (fun c_79 => ?_) (fun c_79 => ?_)
        · have c_79 := nI_eq0 (a := z 2) (b := 40) (by omega) (by omega) c_79
          refine lv_iconst (v := nI 0) hx hb dX6_mention_86 (by decide +kernel) ?_
          refine q_put (ty := .int) (ws1 := mdW cA ad g (zs z 4 0)) hx hb hT hown hK hP hD hS kw_X6 tyX6_ok nmX6 0 rfl rfl 27 (by decide) kf_X6_82 rfl rfl (by decide +kernel) rfl rfl (Nat.le_of_ble_eq_true rfl) rfl dX6_mention_87 (fun H locs hP hD hS => ?_)
          refine lv_aload_n hx hb dX6_mention_90 rfl (lv_at hl 0 rfl) ?_
          refine q_get hx hb hT hown hK hP kw_X6 0 rfl rfl 27 (by decide) kf_X6_82 rfl (v := .int (nI 0)) rfl dX6_mention_91 ?_
          refine lv_if_le (tgt := 99) hx hb dX6_mention_94 (by decide) (fun c_94 => ?_) (fun c_94 => ?_)
          · have c_94 := nI_le1 (a := 0) (b := 0) (by omega) (by omega) c_94
            refine lv_aload_n hx hb dX6_mention_99 rfl (lv_at hl 0 rfl) ?_
            refine q_get hx hb hT hown hK hP kw_X6 0 rfl rfl 1 (by decide) kf_X6_7 rfl (v := .ref (ad 0)) rfl dX6_mention_100 ?_
            refine lv_aload_n hx hb dX6_mention_103 rfl (lv_at hl 0 rfl) ?_
            refine q_get hx hb hT hown hK hP kw_X6 0 rfl rfl 0 (by decide) kf_X6_86 rfl (v := .int (nI (z 0))) rfl dX6_mention_104 ?_
            refine lv_iload_n hx hb dX6_mention_107 rfl (lv_at hl 1 rfl) ?_
            refine q_iast (f := g 0) (ws1 := mdW cA ad (gs g 0 (upd (g 0) (z 0) nm)) (zs z 4 0)) hx hb hK hP hD hS 1 0 rfl rfl (z 0) rfl (by omega) (by omega) rfl dX6_mention_108 (fun H locs hP hD hS => ?_)
            obtain ⟨nF108_0, enF108_0⟩ : ∃ y : Nat → Int32, y = upd (g 0) (z 0) nm := ⟨_, rfl⟩
            have hP : va_P D vwCl (mdW cA ad (gs g 0 nF108_0) (zs z 4 0)) H := by rw [enF108_0]; exact hP
            have hD : va_D A (mdW cA ad (gs g 0 nF108_0) (zs z 4 0)) := by rw [enF108_0]; exact hD
            refine lv_aload_n hx hb dX6_mention_109 rfl (lv_at hl 0 rfl) ?_
            refine q_get hx hb hT hown hK hP kw_X6 0 rfl rfl 2 (by decide) kf_X6_13 rfl (v := .ref (ad 1)) rfl dX6_mention_110 ?_
            refine lv_aload_n hx hb dX6_mention_113 rfl (lv_at hl 0 rfl) ?_
            refine q_get hx hb hT hown hK hP kw_X6 0 rfl rfl 0 (by decide) kf_X6_86 rfl (v := .int (nI (z 0))) rfl dX6_mention_114 ?_
            refine lv_iload_n hx hb dX6_mention_117 rfl (lv_at hl 2 rfl) ?_
            refine q_iast (f := g 1) (ws1 := mdW cA ad (gs (gs g 0 nF108_0) 1 (upd (g 1) (z 0) fm)) (zs z 4 0)) hx hb hK hP hD hS 2 0 rfl rfl (z 0) rfl (by omega) (by omega) rfl dX6_mention_118 (fun H locs hP hD hS => ?_)
            obtain ⟨nF118_1, enF118_1⟩ : ∃ y : Nat → Int32, y = upd (g 1) (z 0) fm := ⟨_, rfl⟩
            have hP : va_P D vwCl (mdW cA ad (gs (gs g 0 nF108_0) 1 nF118_1) (zs z 4 0)) H := by rw [enF118_1]; exact hP
            have hD : va_D A (mdW cA ad (gs (gs g 0 nF108_0) 1 nF118_1) (zs z 4 0)) := by rw [enF118_1]; exact hD
            refine lv_aload_n hx hb dX6_mention_119 rfl (lv_at hl 0 rfl) ?_
            refine q_get hx hb hT hown hK hP kw_X6 0 rfl rfl 3 (by decide) kf_X6_16 rfl (v := .ref (ad 2)) rfl dX6_mention_120 ?_
            refine lv_aload_n hx hb dX6_mention_123 rfl (lv_at hl 0 rfl) ?_
            refine q_get hx hb hT hown hK hP kw_X6 0 rfl rfl 0 (by decide) kf_X6_86 rfl (v := .int (nI (z 0))) rfl dX6_mention_124 ?_
            refine lv_iload_n hx hb dX6_mention_127 rfl (lv_at hl 3 rfl) ?_
            refine q_iast (f := g 2) (ws1 := mdW cA ad (gs (gs (gs g 0 nF108_0) 1 nF118_1) 2 (upd (g 2) (z 0) pl)) (zs z 4 0)) hx hb hK hP hD hS 3 0 rfl rfl (z 0) rfl (by omega) (by omega) rfl dX6_mention_128 (fun H locs hP hD hS => ?_)
            obtain ⟨nF128_2, enF128_2⟩ : ∃ y : Nat → Int32, y = upd (g 2) (z 0) pl := ⟨_, rfl⟩
            have hP : va_P D vwCl (mdW cA ad (gs (gs (gs g 0 nF108_0) 1 nF118_1) 2 nF128_2) (zs z 4 0)) H := by rw [enF128_2]; exact hP
            have hD : va_D A (mdW cA ad (gs (gs (gs g 0 nF108_0) 1 nF118_1) 2 nF128_2) (zs z 4 0)) := by rw [enF128_2]; exact hD
            refine lv_aload_n hx hb dX6_mention_129 rfl (lv_at hl 0 rfl) ?_
            refine q_get hx hb hT hown hK hP kw_X6 0 rfl rfl 4 (by decide) kf_X6_19 rfl (v := .ref (ad 3)) rfl dX6_mention_130 ?_
            refine lv_aload_n hx hb dX6_mention_133 rfl (lv_at hl 0 rfl) ?_
            refine q_get hx hb hT hown hK hP kw_X6 0 rfl rfl 0 (by decide) kf_X6_86 rfl (v := .int (nI (z 0))) rfl dX6_mention_134 ?_
            refine lv_iload hx hb dX6_mention_137 (lv_at hl 4 rfl) ?_
            refine q_iast (f := g 3) (ws1 := mdW cA ad (gs (gs (gs (gs g 0 nF108_0) 1 nF118_1) 2 nF128_2) 3 (upd (g 3) (z 0) po)) (zs z 4 0)) hx hb hK hP hD hS 4 0 rfl rfl (z 0) rfl (by omega) (by omega) rfl dX6_mention_139 (fun H locs hP hD hS => ?_)
            obtain ⟨nF139_3, enF139_3⟩ : ∃ y : Nat → Int32, y = upd (g 3) (z 0) po := ⟨_, rfl⟩
            have hP : va_P D vwCl (mdW cA ad (gs (gs (gs (gs g 0 nF108_0) 1 nF118_1) 2 nF128_2) 3 nF139_3) (zs z 4 0)) H := by rw [enF139_3]; exact hP
            have hD : va_D A (mdW cA ad (gs (gs (gs (gs g 0 nF108_0) 1 nF118_1) 2 nF128_2) 3 nF139_3) (zs z 4 0)) := by rw [enF139_3]; exact hD
            refine lv_aload_n hx hb dX6_mention_140 rfl (lv_at hl 0 rfl) ?_
            refine q_get hx hb hT hown hK hP kw_X6 0 rfl rfl 11 (by decide) kf_X6_40 rfl (v := .ref (ad 12)) rfl dX6_mention_141 ?_
            refine lv_aload_n hx hb dX6_mention_144 rfl (lv_at hl 0 rfl) ?_
            refine q_get hx hb hT hown hK hP kw_X6 0 rfl rfl 0 (by decide) kf_X6_86 rfl (v := .int (nI (z 0))) rfl dX6_mention_145 ?_
            refine lv_iconst (v := nI 0) hx hb dX6_mention_148 (by decide +kernel) ?_
            refine q_iast (f := g 12) (ws1 := mdW cA ad (gs (gs (gs (gs (gs g 0 nF108_0) 1 nF118_1) 2 nF128_2) 3 nF139_3) 12 (upd (g 12) (z 0) (nI 0))) (zs z 4 0)) hx hb hK hP hD hS 11 0 rfl rfl (z 0) rfl (by omega) (by omega) rfl dX6_mention_149 (fun H locs hP hD hS => ?_)
            obtain ⟨nF149_12, enF149_12⟩ : ∃ y : Nat → Int32, y = upd (g 12) (z 0) (nI 0) := ⟨_, rfl⟩
            have hP : va_P D vwCl (mdW cA ad (gs (gs (gs (gs (gs g 0 nF108_0) 1 nF118_1) 2 nF128_2) 3 nF139_3) 12 nF149_12) (zs z 4 0)) H := by rw [enF149_12]; exact hP
            have hD : va_D A (mdW cA ad (gs (gs (gs (gs (gs g 0 nF108_0) 1 nF118_1) 2 nF128_2) 3 nF139_3) 12 nF149_12) (zs z 4 0)) := by rw [enF149_12]; exact hD
            refine lv_aload_n hx hb dX6_mention_150 rfl (lv_at hl 0 rfl) ?_
            refine q_get hx hb hT hown hK hP kw_X6 0 rfl rfl 12 (by decide) kf_X6_43 rfl (v := .ref (ad 13)) rfl dX6_mention_151 ?_
            refine lv_aload_n hx hb dX6_mention_154 rfl (lv_at hl 0 rfl) ?_
            refine q_get hx hb hT hown hK hP kw_X6 0 rfl rfl 0 (by decide) kf_X6_86 rfl (v := .int (nI (z 0))) rfl dX6_mention_155 ?_
            refine lv_sipush (v := nI 999) hx hb dX6_mention_158 (by decide +kernel) ?_
            refine q_iast (f := g 13) (ws1 := mdW cA ad (gs (gs (gs (gs (gs (gs g 0 nF108_0) 1 nF118_1) 2 nF128_2) 3 nF139_3) 12 nF149_12) 13 (upd (g 13) (z 0) (nI 999))) (zs z 4 0)) hx hb hK hP hD hS 12 0 rfl rfl (z 0) rfl (by omega) (by omega) rfl dX6_mention_161 (fun H locs hP hD hS => ?_)
            obtain ⟨nF161_13, enF161_13⟩ : ∃ y : Nat → Int32, y = upd (g 13) (z 0) (nI 999) := ⟨_, rfl⟩
            have hP : va_P D vwCl (mdW cA ad (gs (gs (gs (gs (gs (gs g 0 nF108_0) 1 nF118_1) 2 nF128_2) 3 nF139_3) 12 nF149_12) 13 nF161_13) (zs z 4 0)) H := by rw [enF161_13]; exact hP
            have hD : va_D A (mdW cA ad (gs (gs (gs (gs (gs (gs g 0 nF108_0) 1 nF118_1) 2 nF128_2) 3 nF139_3) 12 nF149_12) 13 nF161_13) (zs z 4 0)) := by rw [enF161_13]; exact hD
            refine lv_aload_n hx hb dX6_mention_162 rfl (lv_at hl 0 rfl) ?_
            refine q_get hx hb hT hown hK hP kw_X6 0 rfl rfl 13 (by decide) kf_X6_46 rfl (v := .ref (ad 17)) rfl dX6_mention_163 ?_
            refine lv_aload_n hx hb dX6_mention_166 rfl (lv_at hl 0 rfl) ?_
            refine q_get hx hb hT hown hK hP kw_X6 0 rfl rfl 0 (by decide) kf_X6_86 rfl (v := .int (nI (z 0))) rfl dX6_mention_167 ?_
            refine lv_iconst (v := nI 0) hx hb dX6_mention_170 (by decide +kernel) ?_
            refine q_iast (f := g 17) (ws1 := mdW cA ad (gs (gs (gs (gs (gs (gs (gs g 0 nF108_0) 1 nF118_1) 2 nF128_2) 3 nF139_3) 12 nF149_12) 13 nF161_13) 17 (upd (g 17) (z 0) (nI 0))) (zs z 4 0)) hx hb hK hP hD hS 13 0 rfl rfl (z 0) rfl (by omega) (by omega) rfl dX6_mention_171 (fun H locs hP hD hS => ?_)
            obtain ⟨nF171_17, enF171_17⟩ : ∃ y : Nat → Int32, y = upd (g 17) (z 0) (nI 0) := ⟨_, rfl⟩
            have hP : va_P D vwCl (mdW cA ad (gs (gs (gs (gs (gs (gs (gs g 0 nF108_0) 1 nF118_1) 2 nF128_2) 3 nF139_3) 12 nF149_12) 13 nF161_13) 17 nF171_17) (zs z 4 0)) H := by rw [enF171_17]; exact hP
            have hD : va_D A (mdW cA ad (gs (gs (gs (gs (gs (gs (gs g 0 nF108_0) 1 nF118_1) 2 nF128_2) 3 nF139_3) 12 nF149_12) 13 nF161_13) 17 nF171_17) (zs z 4 0)) := by rw [enF171_17]; exact hD
            refine lv_aload_n hx hb dX6_mention_172 rfl (lv_at hl 0 rfl) ?_
            refine q_get hx hb hT hown hK hP kw_X6 0 rfl rfl 14 (by decide) kf_X6_49 rfl (v := .ref (ad 18)) rfl dX6_mention_173 ?_
            refine lv_aload_n hx hb dX6_mention_176 rfl (lv_at hl 0 rfl) ?_
            refine q_get hx hb hT hown hK hP kw_X6 0 rfl rfl 0 (by decide) kf_X6_86 rfl (v := .int (nI (z 0))) rfl dX6_mention_177 ?_
            refine lv_sipush (v := nI 999) hx hb dX6_mention_180 (by decide +kernel) ?_
            refine q_iast (f := g 18) (ws1 := mdW cA ad (gs (gs (gs (gs (gs (gs (gs (gs g 0 nF108_0) 1 nF118_1) 2 nF128_2) 3 nF139_3) 12 nF149_12) 13 nF161_13) 17 nF171_17) 18 (upd (g 18) (z 0) (nI 999))) (zs z 4 0)) hx hb hK hP hD hS 14 0 rfl rfl (z 0) rfl (by omega) (by omega) rfl dX6_mention_183 (fun H locs hP hD hS => ?_)
            obtain ⟨nF183_18, enF183_18⟩ : ∃ y : Nat → Int32, y = upd (g 18) (z 0) (nI 999) := ⟨_, rfl⟩
            have hP : va_P D vwCl (mdW cA ad (gs (gs (gs (gs (gs (gs (gs (gs g 0 nF108_0) 1 nF118_1) 2 nF128_2) 3 nF139_3) 12 nF149_12) 13 nF161_13) 17 nF171_17) 18 nF183_18) (zs z 4 0)) H := by rw [enF183_18]; exact hP
            have hD : va_D A (mdW cA ad (gs (gs (gs (gs (gs (gs (gs (gs g 0 nF108_0) 1 nF118_1) 2 nF128_2) 3 nF139_3) 12 nF149_12) 13 nF161_13) 17 nF171_17) 18 nF183_18) (zs z 4 0)) := by rw [enF183_18]; exact hD
            refine lv_aload_n hx hb dX6_mention_184 rfl (lv_at hl 0 rfl) ?_
            refine q_get hx hb hT hown hK hP kw_X6 0 rfl rfl 10 (by decide) kf_X6_37 rfl (v := .ref (ad 4)) rfl dX6_mention_185 ?_
            refine lv_aload_n hx hb dX6_mention_188 rfl (lv_at hl 0 rfl) ?_
            refine q_get hx hb hT hown hK hP kw_X6 0 rfl rfl 0 (by decide) kf_X6_86 rfl (v := .int (nI (z 0))) rfl dX6_mention_189 ?_
            refine lv_iconst (v := (-1)) hx hb dX6_mention_192 (by decide +kernel) ?_
            refine q_iast (f := g 4) (ws1 := mdW cA ad (gs (gs (gs (gs (gs (gs (gs (gs (gs g 0 nF108_0) 1 nF118_1) 2 nF128_2) 3 nF139_3) 4 (upd (g 4) (z 0) (-1))) 12 nF149_12) 13 nF161_13) 17 nF171_17) 18 nF183_18) (zs z 4 0)) hx hb hK hP hD hS 10 0 rfl rfl (z 0) rfl (by omega) (by omega) rfl dX6_mention_193 (fun H locs hP hD hS => ?_)
            obtain ⟨nF193_4, enF193_4⟩ : ∃ y : Nat → Int32, y = upd (g 4) (z 0) (-1) := ⟨_, rfl⟩
            have hP : va_P D vwCl (mdW cA ad (gs (gs (gs (gs (gs (gs (gs (gs (gs g 0 nF108_0) 1 nF118_1) 2 nF128_2) 3 nF139_3) 4 nF193_4) 12 nF149_12) 13 nF161_13) 17 nF171_17) 18 nF183_18) (zs z 4 0)) H := by rw [enF193_4]; exact hP
            have hD : va_D A (mdW cA ad (gs (gs (gs (gs (gs (gs (gs (gs (gs g 0 nF108_0) 1 nF118_1) 2 nF128_2) 3 nF139_3) 4 nF193_4) 12 nF149_12) 13 nF161_13) 17 nF171_17) 18 nF183_18) (zs z 4 0)) := by rw [enF193_4]; exact hD
            refine lv_aload_n hx hb dX6_mention_194 rfl (lv_at hl 0 rfl) ?_
            refine lv_aload_n hx hb dX6_mention_195 rfl (lv_at hl 0 rfl) ?_
            refine q_get hx hb hT hown hK hP kw_X6 0 rfl rfl 0 (by decide) kf_X6_86 rfl (v := .int (nI (z 0))) rfl dX6_mention_196 ?_
            refine q_callIW (As := [.int (nI (z 0))]) (r := nI (z 2)) (w1 := mdW cA ad (gs (gs (gs (gs (gs (gs (gs (gs (gs (gs (gs g 0 nF108_0) 1 nF118_1) 2 nF128_2) 3 nF139_3) 4 nF193_4) 12 nF149_12) 13 nF161_13) 17 nF171_17) 18 nF183_18) 22 (upd (g 22) (z 0) (nI (z 2)))) 23 (upd (g 23) (z 2) (nI (z 2)))) (zs (zs z 2 ((z 2) + 1)) 4 0)) hx hb hml hown hT hK hP hD hS hA (c_X6_adds l D cA ad (gs (gs (gs (gs (gs (gs (gs (gs (gs g 0 nF108_0) 1 nF118_1) 2 nF128_2) 3 nF139_3) 4 nF193_4) 12 nF149_12) 13 nF161_13) 17 nF171_17) 18 nF183_18) (zs z 4 0) (z 0) (show (z 0) < 16 by omega) (show (z 2) < 40 by omega)) k_X6_adds kl_X6_100 (q0 := 0) rfl rfl rfl ((mdW_adr _ _ _ _).trans (mdW_adr _ _ _ _).symm) hl rfl rfl (Nat.le_of_ble_eq_true rfl) ⟨⟨rfl, rfl⟩, Nat.le_of_ble_eq_true rfl, Nat.le_of_ble_eq_true rfl⟩ ⟨Nat.zero_le _, Nat.zero_le _⟩ dX6_mention_199 (fun H locs hP hD hS => ?_)
            obtain ⟨nF199_22, enF199_22⟩ : ∃ y : Nat → Int32, y = upd (g 22) (z 0) (nI (z 2)) := ⟨_, rfl⟩
            have hP : va_P D vwCl (mdW cA ad (gs (gs (gs (gs (gs (gs (gs (gs (gs (gs (gs g 0 nF108_0) 1 nF118_1) 2 nF128_2) 3 nF139_3) 4 nF193_4) 12 nF149_12) 13 nF161_13) 17 nF171_17) 18 nF183_18) 22 nF199_22) 23 (upd (g 23) (z 2) (nI (z 2)))) (zs (zs z 2 ((z 2) + 1)) 4 0)) H := by rw [enF199_22]; exact hP
            have hD : va_D A (mdW cA ad (gs (gs (gs (gs (gs (gs (gs (gs (gs (gs (gs g 0 nF108_0) 1 nF118_1) 2 nF128_2) 3 nF139_3) 4 nF193_4) 12 nF149_12) 13 nF161_13) 17 nF171_17) 18 nF183_18) 22 nF199_22) 23 (upd (g 23) (z 2) (nI (z 2)))) (zs (zs z 2 ((z 2) + 1)) 4 0)) := by rw [enF199_22]; exact hD
            obtain ⟨nF199_23, enF199_23⟩ : ∃ y : Nat → Int32, y = upd (g 23) (z 2) (nI (z 2)) := ⟨_, rfl⟩
            have hP : va_P D vwCl (mdW cA ad (gs (gs (gs (gs (gs (gs (gs (gs (gs (gs (gs g 0 nF108_0) 1 nF118_1) 2 nF128_2) 3 nF139_3) 4 nF193_4) 12 nF149_12) 13 nF161_13) 17 nF171_17) 18 nF183_18) 22 nF199_22) 23 nF199_23) (zs (zs z 2 ((z 2) + 1)) 4 0)) H := by rw [enF199_23]; exact hP
            have hD : va_D A (mdW cA ad (gs (gs (gs (gs (gs (gs (gs (gs (gs (gs (gs g 0 nF108_0) 1 nF118_1) 2 nF128_2) 3 nF139_3) 4 nF193_4) 12 nF149_12) 13 nF161_13) 17 nF171_17) 18 nF183_18) 22 nF199_22) 23 nF199_23) (zs (zs z 2 ((z 2) + 1)) 4 0)) := by rw [enF199_23]; exact hD
            refine lv_pop hx hb dX6_mention_202 rfl ?_
            refine lv_aload_n hx hb dX6_mention_203 rfl (lv_at hl 0 rfl) ?_
            refine lv_dup hx hb dX6_mention_204 rfl ?_
            refine q_get hx hb hT hown hK hP kw_X6 0 rfl rfl 0 (by decide) kf_X6_86 rfl (v := .int (nI (z 0))) rfl dX6_mention_205 ?_
            refine lv_iconst (v := nI 1) hx hb dX6_mention_208 (by decide +kernel) ?_
            refine lv_iadd hx hb dX6_mention_209 ?_
            refine q_top (y := nI (z 0 + 1)) (nI_add _ _) ?_
            refine q_put (ty := .int) (ws1 := mdW cA ad (gs (gs (gs (gs (gs (gs (gs (gs (gs (gs (gs g 0 nF108_0) 1 nF118_1) 2 nF128_2) 3 nF139_3) 4 nF193_4) 12 nF149_12) 13 nF161_13) 17 nF171_17) 18 nF183_18) 22 nF199_22) 23 nF199_23) (zs (zs (zs z 0 (z 0 + 1)) 2 ((z 2) + 1)) 4 0)) hx hb hT hown hK hP hD hS kw_X6 tyX6_ok nmX6 0 rfl rfl 0 (by decide) kf_X6_86 rfl rfl (by decide +kernel) rfl rfl (Nat.le_of_ble_eq_true rfl) rfl dX6_mention_210 (fun H locs hP hD hS => ?_)
            refine lv_aload_n hx hb dX6_mention_213 rfl (lv_at hl 0 rfl) ?_
            refine q_get hx hb hT hown hK hP kw_X6 0 rfl rfl 0 (by decide) kf_X6_86 rfl (v := .int (nI (z 0 + 1))) rfl dX6_mention_214 ?_
            refine lv_iconst (v := nI 1) hx hb dX6_mention_217 (by decide +kernel) ?_
            refine lv_isub hx hb dX6_mention_218 ?_
            refine q_top (y := nI (z 0)) (q_sub1 _) ?_
            rw [enF199_23] at hP hD
            rw [enF199_22] at hP hD
            rw [enF193_4] at hP hD
            rw [enF183_18] at hP hD
            rw [enF171_17] at hP hD
            rw [enF161_13] at hP hD
            rw [enF149_12] at hP hD
            rw [enF139_3] at hP hD
            rw [enF128_2] at hP hD
            rw [enF118_1] at hP hD
            rw [enF108_0] at hP hD
            exact q_iret hx hb hr hlk (by rfl) (va_cast' hP (by rfl)) hS dX6_mention_219
          · have c_94 := nI_le0 (a := 0) (b := 0) (by omega) (by omega) c_94
            exfalso; omega
        · have c_79 := nI_eq1 (a := z 2) (b := 40) (by omega) (by omega) c_79
          exfalso; omega
    · have c_57 := q_b0e c_57
      exact absurd c_57 (by rw [iN_t hnm, iN_t hfm, iN_t hpl]; decide)
  have zqJ34 : ∀ (H : Heap) (locs : List Loc) (ls : Array Slot), va_P D vwCl (mdW cA ad g z) H → va_D A (mdW cA ad g z) → va_S A s.heap H locs → lv_has ls 6 [(0, .ref (ad 80)), (1, .int nm), (2, .int fm), (3, .int pl), (4, .int po)] → W p l e rm_X6_mention s m args below meth c H locs 0 0 (q_GI D (nI (z 0)) (mdW cA ad (gs (gs (gs (gs (gs (gs (gs (gs (gs (gs (gs g 0 (upd (g 0) (z 0) nm)) 1 (upd (g 1) (z 0) fm)) 2 (upd (g 2) (z 0) pl)) 3 (upd (g 3) (z 0) po)) 4 (upd (g 4) (z 0) (-1))) 12 (upd (g 12) (z 0) (nI 0))) 13 (upd (g 13) (z 0) (nI 999))) 17 (upd (g 17) (z 0) (nI 0))) 18 (upd (g 18) (z 0) (nI 999))) 22 (upd (g 22) (z 0) (nI (z 2)))) 23 (upd (g 23) (z 2) (nI (z 2)))) (zs (zs (zs z 0 ((z 0) + 1)) 2 ((z 2) + 1)) 4 0)) A below args s) (F0 m 34 ls [.int (q_b (iN nm (nI 0) (nI 9) && iN fm (-1) (nI 9) && iN pl (nI 0) (nI 5)))]) := by
    intro   H locs ls hP hD hS hl
    refine lv_istore (lv' := [(5, .int (q_b (iN nm (nI 0) (nI 9) && iN fm (-1) (nI 9) && iN pl (nI 0) (nI 5)))), (0, .ref (ad 80)), (1, .int nm), (2, .int fm), (3, .int pl), (4, .int po)]) hx hb dX6_mention_34 hl (by decide) rfl (fun ls hl => ?_)
    refine lv_aload_n hx hb dX6_mention_36 rfl (lv_at hl 1 rfl) ?_
    refine lv_iload hx hb dX6_mention_37 (lv_at hl 5 rfl) ?_
    refine lv_iconst (v := (-1)) hx hb dX6_mention_39 (by decide +kernel) ?_
    refine lv_icmp_eq (tgt := 55) hx hb dX6_mention_40 (by decide) (fun c_40 => ?_) (fun c_40 => ?_)
    · exact zqJ55   _ _ _ hP hD hS (lv_sub hl [1, 2, 3, 4, 5, 0] rfl)
    · refine lv_iload hx hb dX6_mention_43 (lv_at hl 5 rfl) ?_
      refine q_callSI (As := [.int po]) (r := q_b (mB po 8)) hx hb hml hown hT hK hP hD hS hA (c_X6_isPost l D cA po) k_X6_isPost kl_X6_96 hl rfl rfl (Nat.le_of_ble_eq_true rfl) ⟨⟨rfl, rfl⟩, Nat.le_of_ble_eq_true rfl, Nat.le_of_ble_eq_true rfl⟩ ⟨Nat.zero_le _, Nat.zero_le _⟩ dX6_mention_45 (fun H locs hP hD hS => ?_)
      refine lv_if_ne (tgt := 55) hx hb dX6_mention_48 (by decide) (fun c_48 => ?_) (fun c_48 => ?_)
      · have c_48 := q_b0n c_48
        exact zqJ55   _ _ _ hP hD hS (lv_sub hl [1, 2, 3, 4, 5, 0] rfl)
      · have c_48 := q_b0e c_48
        exact absurd c_48 (mB_F (hpo.resolve_left c_40) (by omega))
  refine lv_iload_n hx hb dX6_mention_0 rfl (lv_at hl 1 rfl) ?_
  refine lv_iconst (v := nI 0) hx hb dX6_mention_1 (by decide +kernel) ?_
  refine lv_bipush (v := nI 9) hx hb dX6_mention_2 (by decide +kernel) ?_
  refine q_callSI (As := [.int nm, .int (nI 0), .int (nI 9)]) (r := q_b (iN nm (nI 0) (nI 9))) hx hb hml hown hT hK hP hD hS hA (c_X6_isIn l D cA nm (nI 0) (nI 9)) k_X6_isIn kl_X6_89 hl rfl rfl (Nat.le_of_ble_eq_true rfl) ⟨⟨rfl, rfl⟩, Nat.le_of_ble_eq_true rfl, Nat.le_of_ble_eq_true rfl⟩ ⟨Nat.zero_le _, Nat.zero_le _⟩ dX6_mention_4 (fun H locs hP hD hS => ?_)
  refine lv_if_eq (tgt := 33) hx hb dX6_mention_7 (by decide) (fun c_7 => ?_) (fun c_7 => ?_)
  · have c_7 := q_b0e c_7
    refine lv_iconst (v := nI 0) hx hb dX6_mention_33 (by decide +kernel) ?_
    refine q_top (y := q_b (iN nm (nI 0) (nI 9) && iN fm (-1) (nI 9) && iN pl (nI 0) (nI 5))) (by first | exact q_bt (by rw [c_7, c_17, c_26]; rfl) | exact q_bf (by rw [c_7]; rfl) | exact q_bf (by rw [c_7, c_17]; rfl) | exact q_bf (by rw [c_7, c_17, c_26]; rfl)) ?_
    exact zqJ34   _ _ _ hP hD hS (lv_sub hl [0, 1, 2, 3, 4] rfl)
  · have c_7 := q_b0n c_7
    refine lv_iload_n hx hb dX6_mention_10 rfl (lv_at hl 2 rfl) ?_
    refine lv_iconst (v := (-1)) hx hb dX6_mention_11 (by decide +kernel) ?_
    refine lv_bipush (v := nI 9) hx hb dX6_mention_12 (by decide +kernel) ?_
    refine q_callSI (As := [.int fm, .int (-1), .int (nI 9)]) (r := q_b (iN fm (-1) (nI 9))) hx hb hml hown hT hK hP hD hS hA (c_X6_isIn l D cA fm (-1) (nI 9)) k_X6_isIn kl_X6_89 hl rfl rfl (Nat.le_of_ble_eq_true rfl) ⟨⟨rfl, rfl⟩, Nat.le_of_ble_eq_true rfl, Nat.le_of_ble_eq_true rfl⟩ ⟨Nat.zero_le _, Nat.zero_le _⟩ dX6_mention_14 (fun H locs hP hD hS => ?_)
    refine lv_if_eq (tgt := 33) hx hb dX6_mention_17 (by decide) (fun c_17 => ?_) (fun c_17 => ?_)
    · have c_17 := q_b0e c_17
      refine lv_iconst (v := nI 0) hx hb dX6_mention_33 (by decide +kernel) ?_
      refine q_top (y := q_b (iN nm (nI 0) (nI 9) && iN fm (-1) (nI 9) && iN pl (nI 0) (nI 5))) (by first | exact q_bt (by rw [c_7, c_17, c_26]; rfl) | exact q_bf (by rw [c_7]; rfl) | exact q_bf (by rw [c_7, c_17]; rfl) | exact q_bf (by rw [c_7, c_17, c_26]; rfl)) ?_
      exact zqJ34   _ _ _ hP hD hS (lv_sub hl [0, 1, 2, 3, 4] rfl)
    · have c_17 := q_b0n c_17
      refine lv_iload_n hx hb dX6_mention_20 rfl (lv_at hl 3 rfl) ?_
      refine lv_iconst (v := nI 0) hx hb dX6_mention_21 (by decide +kernel) ?_
      refine lv_iconst (v := nI 5) hx hb dX6_mention_22 (by decide +kernel) ?_
      refine q_callSI (As := [.int pl, .int (nI 0), .int (nI 5)]) (r := q_b (iN pl (nI 0) (nI 5))) hx hb hml hown hT hK hP hD hS hA (c_X6_isIn l D cA pl (nI 0) (nI 5)) k_X6_isIn kl_X6_89 hl rfl rfl (Nat.le_of_ble_eq_true rfl) ⟨⟨rfl, rfl⟩, Nat.le_of_ble_eq_true rfl, Nat.le_of_ble_eq_true rfl⟩ ⟨Nat.zero_le _, Nat.zero_le _⟩ dX6_mention_23 (fun H locs hP hD hS => ?_)
      refine lv_if_eq (tgt := 33) hx hb dX6_mention_26 (by decide) (fun c_26 => ?_) (fun c_26 => ?_)
      · have c_26 := q_b0e c_26
        refine lv_iconst (v := nI 0) hx hb dX6_mention_33 (by decide +kernel) ?_
        refine q_top (y := q_b (iN nm (nI 0) (nI 9) && iN fm (-1) (nI 9) && iN pl (nI 0) (nI 5))) (by first | exact q_bt (by rw [c_7, c_17, c_26]; rfl) | exact q_bf (by rw [c_7]; rfl) | exact q_bf (by rw [c_7, c_17]; rfl) | exact q_bf (by rw [c_7, c_17, c_26]; rfl)) ?_
        exact zqJ34   _ _ _ hP hD hS (lv_sub hl [0, 1, 2, 3, 4] rfl)
      · have c_26 := q_b0n c_26
        refine lv_iconst (v := nI 1) hx hb dX6_mention_29 (by decide +kernel) ?_
        refine lv_goto (tgt := 34) hx hb dX6_mention_30 (by decide) ?_
        refine q_top (y := q_b (iN nm (nI 0) (nI 9) && iN fm (-1) (nI 9) && iN pl (nI 0) (nI 5))) (by first | exact q_bt (by rw [c_7, c_17, c_26]; rfl) | exact q_bf (by rw [c_7]; rfl) | exact q_bf (by rw [c_7, c_17]; rfl) | exact q_bf (by rw [c_7, c_17, c_26]; rfl)) ?_
        exact zqJ34   _ _ _ hP hD hS (lv_sub hl [0, 1, 2, 3, 4] rfl)
abbrev rm_X6_mentionx : Room := { frames := 2, cells := 0, slots := 0, locals := 42 }
set_option maxRecDepth 100000 in
set_option maxHeartbeats 4000000 in
theorem c_X6_mentionx (l : Launch) (D : va_G) (cA : ClassId) (ad : Nat → Nat) (g : Nat → Nat → Int32) (z : Nat → Nat) (nm : Int32) (fm : Int32) (pl : Int32) (po : Int32) (hp1 : ¬ po = (-1)) (hp2 : ¬ q_r po 8) : q_CI l yX6_mention [Cond.code yX6_mention cX6_mention 6 (some .int)] rm_X6_mentionx D cA [.ref (ad 80), .int nm, .int fm, .int pl, .int po] (mdW cA ad g z) (nI 0) (mdW cA ad g (zs z 4 1)) := by
  refine q_startI RX6 (by decide +kernel) rfl (Nat.le_of_ble_eq_true rfl) ?_
  intro p e s m below meth c A args H locs ls hx hb hr hml hown hT hlk hP hK hD hA hS hl
  have hl : lv_has ls 6 [(0, .ref (ad 80)), (1, .int nm), (2, .int fm), (3, .int pl), (4, .int po)] := hl
  have zqJ34 : ∀ (H : Heap) (locs : List Loc) (ls : Array Slot), va_P D vwCl (mdW cA ad g z) H → va_D A (mdW cA ad g z) → va_S A s.heap H locs → lv_has ls 6 [(0, .ref (ad 80)), (1, .int nm), (2, .int fm), (3, .int pl), (4, .int po)] → W p l e rm_X6_mentionx s m args below meth c H locs 0 0 (q_GI D (nI 0) (mdW cA ad g (zs z 4 1)) A below args s) (F0 m 34 ls [.int (q_b (iN nm (nI 0) (nI 9) && iN fm (-1) (nI 9) && iN pl (nI 0) (nI 5)))]) := by
    intro   H locs ls hP hD hS hl
    refine lv_istore (lv' := [(5, .int (q_b (iN nm (nI 0) (nI 9) && iN fm (-1) (nI 9) && iN pl (nI 0) (nI 5)))), (0, .ref (ad 80)), (1, .int nm), (2, .int fm), (3, .int pl), (4, .int po)]) hx hb dX6_mention_34 hl (by decide) rfl (fun ls hl => ?_)
    refine lv_aload_n hx hb dX6_mention_36 rfl (lv_at hl 1 rfl) ?_
    refine lv_iload hx hb dX6_mention_37 (lv_at hl 5 rfl) ?_
    refine lv_iconst (v := (-1)) hx hb dX6_mention_39 (by decide +kernel) ?_
    refine lv_icmp_eq (tgt := 55) hx hb dX6_mention_40 (by decide) (fun c_40 => ?_) (fun c_40 => ?_)
    · exact absurd c_40 hp1
    · refine lv_iload hx hb dX6_mention_43 (lv_at hl 5 rfl) ?_
      refine q_callSI (As := [.int po]) (r := q_b (mB po 8)) hx hb hml hown hT hK hP hD hS hA (c_X6_isPost l D cA po) k_X6_isPost kl_X6_96 hl rfl rfl (Nat.le_of_ble_eq_true rfl) ⟨⟨rfl, rfl⟩, Nat.le_of_ble_eq_true rfl, Nat.le_of_ble_eq_true rfl⟩ ⟨Nat.zero_le _, Nat.zero_le _⟩ dX6_mention_45 (fun H locs hP hD hS => ?_)
      refine lv_if_ne (tgt := 55) hx hb dX6_mention_48 (by decide) (fun c_48 => ?_) (fun c_48 => ?_)
      · have c_48 := q_b0n c_48
        exact absurd c_48 (mB_T hp2 (by omega))
      · have c_48 := q_b0e c_48
        refine lv_iconst (v := nI 1) hx hb dX6_mention_51 (by decide +kernel) ?_
        refine lv_goto (tgt := 87) hx hb dX6_mention_52 (by decide) ?_
        refine q_put (ty := .int) (ws1 := mdW cA ad g (zs z 4 1)) hx hb hT hown hK hP hD hS kw_X6 tyX6_ok nmX6 0 rfl rfl 27 (by decide) kf_X6_82 rfl rfl (by decide +kernel) rfl rfl (Nat.le_of_ble_eq_true rfl) rfl dX6_mention_87 (fun H locs hP hD hS => ?_)
        refine lv_aload_n hx hb dX6_mention_90 rfl (lv_at hl 1 rfl) ?_
        refine q_get hx hb hT hown hK hP kw_X6 0 rfl rfl 27 (by decide) kf_X6_82 rfl (v := .int (nI 1)) rfl dX6_mention_91 ?_
        refine lv_if_le (tgt := 99) hx hb dX6_mention_94 (by decide) (fun c_94 => ?_) (fun c_94 => ?_)
        · have c_94 := nI_le1 (a := 1) (b := 0) (by omega) (by omega) c_94
          exfalso; omega
        · have c_94 := nI_le0 (a := 1) (b := 0) (by omega) (by omega) c_94
          refine lv_iconst (v := nI 0) hx hb dX6_mention_97 (by decide +kernel) ?_
          exact q_iret hx hb hr hlk (by rfl) hP hS dX6_mention_98
  refine lv_iload_n hx hb dX6_mention_0 rfl (lv_at hl 1 rfl) ?_
  refine lv_iconst (v := nI 0) hx hb dX6_mention_1 (by decide +kernel) ?_
  refine lv_bipush (v := nI 9) hx hb dX6_mention_2 (by decide +kernel) ?_
  refine q_callSI (As := [.int nm, .int (nI 0), .int (nI 9)]) (r := q_b (iN nm (nI 0) (nI 9))) hx hb hml hown hT hK hP hD hS hA (c_X6_isIn l D cA nm (nI 0) (nI 9)) k_X6_isIn kl_X6_89 hl rfl rfl (Nat.le_of_ble_eq_true rfl) ⟨⟨rfl, rfl⟩, Nat.le_of_ble_eq_true rfl, Nat.le_of_ble_eq_true rfl⟩ ⟨Nat.zero_le _, Nat.zero_le _⟩ dX6_mention_4 (fun H locs hP hD hS => ?_)
  refine lv_if_eq (tgt := 33) hx hb dX6_mention_7 (by decide) (fun c_7 => ?_) (fun c_7 => ?_)
  · have c_7 := q_b0e c_7
    refine lv_iconst (v := nI 0) hx hb dX6_mention_33 (by decide +kernel) ?_
    refine q_top (y := q_b (iN nm (nI 0) (nI 9) && iN fm (-1) (nI 9) && iN pl (nI 0) (nI 5))) (by first | exact q_bt (by rw [c_7, c_17, c_26]; rfl) | exact q_bf (by rw [c_7]; rfl) | exact q_bf (by rw [c_7, c_17]; rfl) | exact q_bf (by rw [c_7, c_17, c_26]; rfl)) ?_
    exact zqJ34   _ _ _ hP hD hS (lv_sub hl [0, 1, 2, 3, 4] rfl)
  · have c_7 := q_b0n c_7
    refine lv_iload_n hx hb dX6_mention_10 rfl (lv_at hl 2 rfl) ?_
    refine lv_iconst (v := (-1)) hx hb dX6_mention_11 (by decide +kernel) ?_
    refine lv_bipush (v := nI 9) hx hb dX6_mention_12 (by decide +kernel) ?_
    refine q_callSI (As := [.int fm, .int (-1), .int (nI 9)]) (r := q_b (iN fm (-1) (nI 9))) hx hb hml hown hT hK hP hD hS hA (c_X6_isIn l D cA fm (-1) (nI 9)) k_X6_isIn kl_X6_89 hl rfl rfl (Nat.le_of_ble_eq_true rfl) ⟨⟨rfl, rfl⟩, Nat.le_of_ble_eq_true rfl, Nat.le_of_ble_eq_true rfl⟩ ⟨Nat.zero_le _, Nat.zero_le _⟩ dX6_mention_14 (fun H locs hP hD hS => ?_)
    refine lv_if_eq (tgt := 33) hx hb dX6_mention_17 (by decide) (fun c_17 => ?_) (fun c_17 => ?_)
    · have c_17 := q_b0e c_17
      refine lv_iconst (v := nI 0) hx hb dX6_mention_33 (by decide +kernel) ?_
      refine q_top (y := q_b (iN nm (nI 0) (nI 9) && iN fm (-1) (nI 9) && iN pl (nI 0) (nI 5))) (by first | exact q_bt (by rw [c_7, c_17, c_26]; rfl) | exact q_bf (by rw [c_7]; rfl) | exact q_bf (by rw [c_7, c_17]; rfl) | exact q_bf (by rw [c_7, c_17, c_26]; rfl)) ?_
      exact zqJ34   _ _ _ hP hD hS (lv_sub hl [0, 1, 2, 3, 4] rfl)
    · have c_17 := q_b0n c_17
      refine lv_iload_n hx hb dX6_mention_20 rfl (lv_at hl 3 rfl) ?_
      refine lv_iconst (v := nI 0) hx hb dX6_mention_21 (by decide +kernel) ?_
      refine lv_iconst (v := nI 5) hx hb dX6_mention_22 (by decide +kernel) ?_
      refine q_callSI (As := [.int pl, .int (nI 0), .int (nI 5)]) (r := q_b (iN pl (nI 0) (nI 5))) hx hb hml hown hT hK hP hD hS hA (c_X6_isIn l D cA pl (nI 0) (nI 5)) k_X6_isIn kl_X6_89 hl rfl rfl (Nat.le_of_ble_eq_true rfl) ⟨⟨rfl, rfl⟩, Nat.le_of_ble_eq_true rfl, Nat.le_of_ble_eq_true rfl⟩ ⟨Nat.zero_le _, Nat.zero_le _⟩ dX6_mention_23 (fun H locs hP hD hS => ?_)
      refine lv_if_eq (tgt := 33) hx hb dX6_mention_26 (by decide) (fun c_26 => ?_) (fun c_26 => ?_)
      · have c_26 := q_b0e c_26
        refine lv_iconst (v := nI 0) hx hb dX6_mention_33 (by decide +kernel) ?_
        refine q_top (y := q_b (iN nm (nI 0) (nI 9) && iN fm (-1) (nI 9) && iN pl (nI 0) (nI 5))) (by first | exact q_bt (by rw [c_7, c_17, c_26]; rfl) | exact q_bf (by rw [c_7]; rfl) | exact q_bf (by rw [c_7, c_17]; rfl) | exact q_bf (by rw [c_7, c_17, c_26]; rfl)) ?_
        exact zqJ34   _ _ _ hP hD hS (lv_sub hl [0, 1, 2, 3, 4] rfl)
      · have c_26 := q_b0n c_26
        refine lv_iconst (v := nI 1) hx hb dX6_mention_29 (by decide +kernel) ?_
        refine lv_goto (tgt := 34) hx hb dX6_mention_30 (by decide) ?_
        refine q_top (y := q_b (iN nm (nI 0) (nI 9) && iN fm (-1) (nI 9) && iN pl (nI 0) (nI 5))) (by first | exact q_bt (by rw [c_7, c_17, c_26]; rfl) | exact q_bf (by rw [c_7]; rfl) | exact q_bf (by rw [c_7, c_17]; rfl) | exact q_bf (by rw [c_7, c_17, c_26]; rfl)) ?_
        exact zqJ34   _ _ _ hP hD hS (lv_sub hl [0, 1, 2, 3, 4] rfl)
abbrev rm_X6_mentionx2 : Room := { frames := 2, cells := 0, slots := 0, locals := 42 }
set_option maxRecDepth 100000 in
set_option maxHeartbeats 4000000 in
theorem c_X6_mentionx2 (l : Launch) (D : va_G) (cA : ClassId) (ad : Nat → Nat) (g : Nat → Nat → Int32) (z : Nat → Nat) (nm : Int32) (fm : Int32) (pl : Int32) (po : Int32) (hpo : po = (-1) ∨ q_r po 8) (hnf : ¬ ((¬ nm < nI 0 ∧ nm ≤ nI 9) ∧ (¬ fm < (-1) ∧ fm ≤ nI 9) ∧ (¬ pl < nI 0 ∧ pl ≤ nI 5))) : q_CI l yX6_mention [Cond.code yX6_mention cX6_mention 6 (some .int)] rm_X6_mentionx2 D cA [.ref (ad 80), .int nm, .int fm, .int pl, .int po] (mdW cA ad g z) (nI 0) (mdW cA ad g (zs z 4 2)) := by
  refine q_startI RX6 (by decide +kernel) rfl (Nat.le_of_ble_eq_true rfl) ?_
  intro p e s m below meth c A args H locs ls hx hb hr hml hown hT hlk hP hK hD hA hS hl
  have hl : lv_has ls 6 [(0, .ref (ad 80)), (1, .int nm), (2, .int fm), (3, .int pl), (4, .int po)] := hl
  have zqJ55 : ∀ (H : Heap) (locs : List Loc) (ls : Array Slot), va_P D vwCl (mdW cA ad g z) H → va_D A (mdW cA ad g z) → va_S A s.heap H locs → lv_has ls 6 [(0, .ref (ad 80)), (1, .int nm), (2, .int fm), (3, .int pl), (4, .int po), (5, .int (q_b (iN nm (nI 0) (nI 9) && iN fm (-1) (nI 9) && iN pl (nI 0) (nI 5))))] → W p l e rm_X6_mentionx2 s m args below meth c H locs 0 0 (q_GI D (nI 0) (mdW cA ad g (zs z 4 2)) A below args s) (F0 m 55 ls [.ref (ad 80)]) := by
    intro   H locs ls hP hD hS hl
    refine lv_iload hx hb dX6_mention_55 (lv_at hl 5 rfl) ?_
    refine lv_if_ne (tgt := 64) hx hb dX6_mention_57 (by decide) (fun c_57 => ?_) (fun c_57 => ?_)
    · have c_57 := q_b0n c_57
      rw [Bool.and_eq_true, Bool.and_eq_true] at c_57; exact absurd ⟨iN_e c_57.1.1, iN_e c_57.1.2, iN_e c_57.2⟩ hnf
    · have c_57 := q_b0e c_57
      refine lv_iconst (v := nI 2) hx hb dX6_mention_60 (by decide +kernel) ?_
      refine lv_goto (tgt := 87) hx hb dX6_mention_61 (by decide) ?_
      refine q_put (ty := .int) (ws1 := mdW cA ad g (zs z 4 2)) hx hb hT hown hK hP hD hS kw_X6 tyX6_ok nmX6 0 rfl rfl 27 (by decide) kf_X6_82 rfl rfl (by decide +kernel) rfl rfl (Nat.le_of_ble_eq_true rfl) rfl dX6_mention_87 (fun H locs hP hD hS => ?_)
      refine lv_aload_n hx hb dX6_mention_90 rfl (lv_at hl 0 rfl) ?_
      refine q_get hx hb hT hown hK hP kw_X6 0 rfl rfl 27 (by decide) kf_X6_82 rfl (v := .int (nI 2)) rfl dX6_mention_91 ?_
      refine lv_if_le (tgt := 99) hx hb dX6_mention_94 (by decide) (fun c_94 => ?_) (fun c_94 => ?_)
      · have c_94 := nI_le1 (a := 2) (b := 0) (by omega) (by omega) c_94
        exfalso; omega
      · have c_94 := nI_le0 (a := 2) (b := 0) (by omega) (by omega) c_94
        refine lv_iconst (v := nI 0) hx hb dX6_mention_97 (by decide +kernel) ?_
        exact q_iret hx hb hr hlk (by rfl) hP hS dX6_mention_98
  have zqJ34 : ∀ (H : Heap) (locs : List Loc) (ls : Array Slot), va_P D vwCl (mdW cA ad g z) H → va_D A (mdW cA ad g z) → va_S A s.heap H locs → lv_has ls 6 [(0, .ref (ad 80)), (1, .int nm), (2, .int fm), (3, .int pl), (4, .int po)] → W p l e rm_X6_mentionx2 s m args below meth c H locs 0 0 (q_GI D (nI 0) (mdW cA ad g (zs z 4 2)) A below args s) (F0 m 34 ls [.int (q_b (iN nm (nI 0) (nI 9) && iN fm (-1) (nI 9) && iN pl (nI 0) (nI 5)))]) := by
    intro   H locs ls hP hD hS hl
    refine lv_istore (lv' := [(5, .int (q_b (iN nm (nI 0) (nI 9) && iN fm (-1) (nI 9) && iN pl (nI 0) (nI 5)))), (0, .ref (ad 80)), (1, .int nm), (2, .int fm), (3, .int pl), (4, .int po)]) hx hb dX6_mention_34 hl (by decide) rfl (fun ls hl => ?_)
    refine lv_aload_n hx hb dX6_mention_36 rfl (lv_at hl 1 rfl) ?_
    refine lv_iload hx hb dX6_mention_37 (lv_at hl 5 rfl) ?_
    refine lv_iconst (v := (-1)) hx hb dX6_mention_39 (by decide +kernel) ?_
    refine lv_icmp_eq (tgt := 55) hx hb dX6_mention_40 (by decide) (fun c_40 => ?_) (fun c_40 => ?_)
    · exact zqJ55   _ _ _ hP hD hS (lv_sub hl [1, 2, 3, 4, 5, 0] rfl)
    · refine lv_iload hx hb dX6_mention_43 (lv_at hl 5 rfl) ?_
      refine q_callSI (As := [.int po]) (r := q_b (mB po 8)) hx hb hml hown hT hK hP hD hS hA (c_X6_isPost l D cA po) k_X6_isPost kl_X6_96 hl rfl rfl (Nat.le_of_ble_eq_true rfl) ⟨⟨rfl, rfl⟩, Nat.le_of_ble_eq_true rfl, Nat.le_of_ble_eq_true rfl⟩ ⟨Nat.zero_le _, Nat.zero_le _⟩ dX6_mention_45 (fun H locs hP hD hS => ?_)
      refine lv_if_ne (tgt := 55) hx hb dX6_mention_48 (by decide) (fun c_48 => ?_) (fun c_48 => ?_)
      · have c_48 := q_b0n c_48
        exact zqJ55   _ _ _ hP hD hS (lv_sub hl [1, 2, 3, 4, 5, 0] rfl)
      · have c_48 := q_b0e c_48
        exact absurd c_48 (mB_F (hpo.resolve_left c_40) (by omega))
  refine lv_iload_n hx hb dX6_mention_0 rfl (lv_at hl 1 rfl) ?_
  refine lv_iconst (v := nI 0) hx hb dX6_mention_1 (by decide +kernel) ?_
  refine lv_bipush (v := nI 9) hx hb dX6_mention_2 (by decide +kernel) ?_
  refine q_callSI (As := [.int nm, .int (nI 0), .int (nI 9)]) (r := q_b (iN nm (nI 0) (nI 9))) hx hb hml hown hT hK hP hD hS hA (c_X6_isIn l D cA nm (nI 0) (nI 9)) k_X6_isIn kl_X6_89 hl rfl rfl (Nat.le_of_ble_eq_true rfl) ⟨⟨rfl, rfl⟩, Nat.le_of_ble_eq_true rfl, Nat.le_of_ble_eq_true rfl⟩ ⟨Nat.zero_le _, Nat.zero_le _⟩ dX6_mention_4 (fun H locs hP hD hS => ?_)
  refine lv_if_eq (tgt := 33) hx hb dX6_mention_7 (by decide) (fun c_7 => ?_) (fun c_7 => ?_)
  · have c_7 := q_b0e c_7
    refine lv_iconst (v := nI 0) hx hb dX6_mention_33 (by decide +kernel) ?_
    refine q_top (y := q_b (iN nm (nI 0) (nI 9) && iN fm (-1) (nI 9) && iN pl (nI 0) (nI 5))) (by first | exact q_bt (by rw [c_7, c_17, c_26]; rfl) | exact q_bf (by rw [c_7]; rfl) | exact q_bf (by rw [c_7, c_17]; rfl) | exact q_bf (by rw [c_7, c_17, c_26]; rfl)) ?_
    exact zqJ34   _ _ _ hP hD hS (lv_sub hl [0, 1, 2, 3, 4] rfl)
  · have c_7 := q_b0n c_7
    refine lv_iload_n hx hb dX6_mention_10 rfl (lv_at hl 2 rfl) ?_
    refine lv_iconst (v := (-1)) hx hb dX6_mention_11 (by decide +kernel) ?_
    refine lv_bipush (v := nI 9) hx hb dX6_mention_12 (by decide +kernel) ?_
    refine q_callSI (As := [.int fm, .int (-1), .int (nI 9)]) (r := q_b (iN fm (-1) (nI 9))) hx hb hml hown hT hK hP hD hS hA (c_X6_isIn l D cA fm (-1) (nI 9)) k_X6_isIn kl_X6_89 hl rfl rfl (Nat.le_of_ble_eq_true rfl) ⟨⟨rfl, rfl⟩, Nat.le_of_ble_eq_true rfl, Nat.le_of_ble_eq_true rfl⟩ ⟨Nat.zero_le _, Nat.zero_le _⟩ dX6_mention_14 (fun H locs hP hD hS => ?_)
    refine lv_if_eq (tgt := 33) hx hb dX6_mention_17 (by decide) (fun c_17 => ?_) (fun c_17 => ?_)
    · have c_17 := q_b0e c_17
      refine lv_iconst (v := nI 0) hx hb dX6_mention_33 (by decide +kernel) ?_
      refine q_top (y := q_b (iN nm (nI 0) (nI 9) && iN fm (-1) (nI 9) && iN pl (nI 0) (nI 5))) (by first | exact q_bt (by rw [c_7, c_17, c_26]; rfl) | exact q_bf (by rw [c_7]; rfl) | exact q_bf (by rw [c_7, c_17]; rfl) | exact q_bf (by rw [c_7, c_17, c_26]; rfl)) ?_
      exact zqJ34   _ _ _ hP hD hS (lv_sub hl [0, 1, 2, 3, 4] rfl)
    · have c_17 := q_b0n c_17
      refine lv_iload_n hx hb dX6_mention_20 rfl (lv_at hl 3 rfl) ?_
      refine lv_iconst (v := nI 0) hx hb dX6_mention_21 (by decide +kernel) ?_
      refine lv_iconst (v := nI 5) hx hb dX6_mention_22 (by decide +kernel) ?_
      refine q_callSI (As := [.int pl, .int (nI 0), .int (nI 5)]) (r := q_b (iN pl (nI 0) (nI 5))) hx hb hml hown hT hK hP hD hS hA (c_X6_isIn l D cA pl (nI 0) (nI 5)) k_X6_isIn kl_X6_89 hl rfl rfl (Nat.le_of_ble_eq_true rfl) ⟨⟨rfl, rfl⟩, Nat.le_of_ble_eq_true rfl, Nat.le_of_ble_eq_true rfl⟩ ⟨Nat.zero_le _, Nat.zero_le _⟩ dX6_mention_23 (fun H locs hP hD hS => ?_)
      refine lv_if_eq (tgt := 33) hx hb dX6_mention_26 (by decide) (fun c_26 => ?_) (fun c_26 => ?_)
      · have c_26 := q_b0e c_26
        refine lv_iconst (v := nI 0) hx hb dX6_mention_33 (by decide +kernel) ?_
        refine q_top (y := q_b (iN nm (nI 0) (nI 9) && iN fm (-1) (nI 9) && iN pl (nI 0) (nI 5))) (by first | exact q_bt (by rw [c_7, c_17, c_26]; rfl) | exact q_bf (by rw [c_7]; rfl) | exact q_bf (by rw [c_7, c_17]; rfl) | exact q_bf (by rw [c_7, c_17, c_26]; rfl)) ?_
        exact zqJ34   _ _ _ hP hD hS (lv_sub hl [0, 1, 2, 3, 4] rfl)
      · have c_26 := q_b0n c_26
        refine lv_iconst (v := nI 1) hx hb dX6_mention_29 (by decide +kernel) ?_
        refine lv_goto (tgt := 34) hx hb dX6_mention_30 (by decide) ?_
        refine q_top (y := q_b (iN nm (nI 0) (nI 9) && iN fm (-1) (nI 9) && iN pl (nI 0) (nI 5))) (by first | exact q_bt (by rw [c_7, c_17, c_26]; rfl) | exact q_bf (by rw [c_7]; rfl) | exact q_bf (by rw [c_7, c_17]; rfl) | exact q_bf (by rw [c_7, c_17, c_26]; rfl)) ?_
        exact zqJ34   _ _ _ hP hD hS (lv_sub hl [0, 1, 2, 3, 4] rfl)
abbrev rm_X6_mentionx5 : Room := { frames := 2, cells := 0, slots := 0, locals := 42 }
set_option maxRecDepth 100000 in
set_option maxHeartbeats 4000000 in
theorem c_X6_mentionx5 (l : Launch) (D : va_G) (cA : ClassId) (ad : Nat → Nat) (g : Nat → Nat → Int32) (z : Nat → Nat) (nm : Int32) (fm : Int32) (pl : Int32) (po : Int32) (hpo : po = (-1) ∨ q_r po 8) (hnm : ¬ nm < nI 0 ∧ nm ≤ nI 9) (hfm : ¬ fm < (-1) ∧ fm ≤ nI 9) (hpl : ¬ pl < nI 0 ∧ pl ≤ nI 5) (hz16 : (z 0) = 16 ∨ (z 2) = 40) (hc : (z 0) ≤ 16) (hm9 : (z 2) ≤ 40) : q_CI l yX6_mention [Cond.code yX6_mention cX6_mention 6 (some .int)] rm_X6_mentionx5 D cA [.ref (ad 80), .int nm, .int fm, .int pl, .int po] (mdW cA ad g z) (nI 0) (mdW cA ad g (zs z 4 3)) := by
  refine q_startI RX6 (by decide +kernel) rfl (Nat.le_of_ble_eq_true rfl) ?_
  intro p e s m below meth c A args H locs ls hx hb hr hml hown hT hlk hP hK hD hA hS hl
  have hl : lv_has ls 6 [(0, .ref (ad 80)), (1, .int nm), (2, .int fm), (3, .int pl), (4, .int po)] := hl
  have zqJ55 : ∀ (H : Heap) (locs : List Loc) (ls : Array Slot), va_P D vwCl (mdW cA ad g z) H → va_D A (mdW cA ad g z) → va_S A s.heap H locs → lv_has ls 6 [(0, .ref (ad 80)), (1, .int nm), (2, .int fm), (3, .int pl), (4, .int po), (5, .int (q_b (iN nm (nI 0) (nI 9) && iN fm (-1) (nI 9) && iN pl (nI 0) (nI 5))))] → W p l e rm_X6_mentionx5 s m args below meth c H locs 0 0 (q_GI D (nI 0) (mdW cA ad g (zs z 4 3)) A below args s) (F0 m 55 ls [.ref (ad 80)]) := by
    intro   H locs ls hP hD hS hl
    refine lv_iload hx hb dX6_mention_55 (lv_at hl 5 rfl) ?_
    refine lv_if_ne (tgt := 64) hx hb dX6_mention_57 (by decide) (fun c_57 => ?_) (fun c_57 => ?_)
    · have c_57 := q_b0n c_57
      refine lv_aload_n hx hb dX6_mention_64 rfl (lv_at hl 0 rfl) ?_
      refine q_get hx hb hT hown hK hP kw_X6 0 rfl rfl 0 (by decide) kf_X6_86 rfl (v := .int (nI (z 0))) rfl dX6_mention_65 ?_
      refine lv_bipush (v := nI 16) hx hb dX6_mention_68 (by decide +kernel) ?_
      refine lv_icmp_eq (tgt := 82) hx hb dX6_mention_70 (by decide) (fun c_70 => ?_) (fun c_70 => ?_)
      · have c_70 := nI_eq1 (a := z 0) (b := 16) (by omega) (by omega) c_70
        refine lv_iconst (v := nI 3) hx hb dX6_mention_82 (by decide +kernel) ?_
        refine lv_goto (tgt := 87) hx hb dX6_mention_83 (by decide) ?_
        refine q_put (ty := .int) (ws1 := mdW cA ad g (zs z 4 3)) hx hb hT hown hK hP hD hS kw_X6 tyX6_ok nmX6 0 rfl rfl 27 (by decide) kf_X6_82 rfl rfl (by decide +kernel) rfl rfl (Nat.le_of_ble_eq_true rfl) rfl dX6_mention_87 (fun H locs hP hD hS => ?_)
        refine lv_aload_n hx hb dX6_mention_90 rfl (lv_at hl 0 rfl) ?_
        refine q_get hx hb hT hown hK hP kw_X6 0 rfl rfl 27 (by decide) kf_X6_82 rfl (v := .int (nI 3)) rfl dX6_mention_91 ?_
        refine lv_if_le (tgt := 99) hx hb dX6_mention_94 (by decide) (fun c_94 => ?_) (fun c_94 => ?_)
        · have c_94 := nI_le1 (a := 3) (b := 0) (by omega) (by omega) c_94
          exfalso; omega
        · have c_94 := nI_le0 (a := 3) (b := 0) (by omega) (by omega) c_94
          refine lv_iconst (v := nI 0) hx hb dX6_mention_97 (by decide +kernel) ?_
          exact q_iret hx hb hr hlk (by rfl) hP hS dX6_mention_98
      · have c_70 := nI_eq0 (a := z 0) (b := 16) (by omega) (by omega) c_70
        refine lv_aload_n hx hb dX6_mention_73 rfl (lv_at hl 0 rfl) ?_
        refine q_get hx hb hT hown hK hP kw_X6 0 rfl rfl 21 (by decide) kf_X6_93 rfl (v := .int (nI (z 2))) rfl dX6_mention_74 ?_
        refine lv_bipush (v := nI 40) hx hb dX6_mention_77 (by decide +kernel) ?_
        refine lv_icmp_ne (tgt := 86) hx hb dX6_mention_79 (by decide) (fun c_79 => ?_) (fun c_79 => ?_)
        · have c_79 := nI_eq0 (a := z 2) (b := 40) (by omega) (by omega) c_79
          exfalso; omega
        · have c_79 := nI_eq1 (a := z 2) (b := 40) (by omega) (by omega) c_79
          refine lv_iconst (v := nI 3) hx hb dX6_mention_82 (by decide +kernel) ?_
          refine lv_goto (tgt := 87) hx hb dX6_mention_83 (by decide) ?_
          refine q_put (ty := .int) (ws1 := mdW cA ad g (zs z 4 3)) hx hb hT hown hK hP hD hS kw_X6 tyX6_ok nmX6 0 rfl rfl 27 (by decide) kf_X6_82 rfl rfl (by decide +kernel) rfl rfl (Nat.le_of_ble_eq_true rfl) rfl dX6_mention_87 (fun H locs hP hD hS => ?_)
          refine lv_aload_n hx hb dX6_mention_90 rfl (lv_at hl 0 rfl) ?_
          refine q_get hx hb hT hown hK hP kw_X6 0 rfl rfl 27 (by decide) kf_X6_82 rfl (v := .int (nI 3)) rfl dX6_mention_91 ?_
          refine lv_if_le (tgt := 99) hx hb dX6_mention_94 (by decide) (fun c_94 => ?_) (fun c_94 => ?_)
          · have c_94 := nI_le1 (a := 3) (b := 0) (by omega) (by omega) c_94
            exfalso; omega
          · have c_94 := nI_le0 (a := 3) (b := 0) (by omega) (by omega) c_94
            refine lv_iconst (v := nI 0) hx hb dX6_mention_97 (by decide +kernel) ?_
            exact q_iret hx hb hr hlk (by rfl) hP hS dX6_mention_98
    · have c_57 := q_b0e c_57
      exact absurd c_57 (by rw [iN_t hnm, iN_t hfm, iN_t hpl]; decide)
  have zqJ34 : ∀ (H : Heap) (locs : List Loc) (ls : Array Slot), va_P D vwCl (mdW cA ad g z) H → va_D A (mdW cA ad g z) → va_S A s.heap H locs → lv_has ls 6 [(0, .ref (ad 80)), (1, .int nm), (2, .int fm), (3, .int pl), (4, .int po)] → W p l e rm_X6_mentionx5 s m args below meth c H locs 0 0 (q_GI D (nI 0) (mdW cA ad g (zs z 4 3)) A below args s) (F0 m 34 ls [.int (q_b (iN nm (nI 0) (nI 9) && iN fm (-1) (nI 9) && iN pl (nI 0) (nI 5)))]) := by
    intro   H locs ls hP hD hS hl
    refine lv_istore (lv' := [(5, .int (q_b (iN nm (nI 0) (nI 9) && iN fm (-1) (nI 9) && iN pl (nI 0) (nI 5)))), (0, .ref (ad 80)), (1, .int nm), (2, .int fm), (3, .int pl), (4, .int po)]) hx hb dX6_mention_34 hl (by decide) rfl (fun ls hl => ?_)
    refine lv_aload_n hx hb dX6_mention_36 rfl (lv_at hl 1 rfl) ?_
    refine lv_iload hx hb dX6_mention_37 (lv_at hl 5 rfl) ?_
    refine lv_iconst (v := (-1)) hx hb dX6_mention_39 (by decide +kernel) ?_
    refine lv_icmp_eq (tgt := 55) hx hb dX6_mention_40 (by decide) (fun c_40 => ?_) (fun c_40 => ?_)
    · exact zqJ55   _ _ _ hP hD hS (lv_sub hl [1, 2, 3, 4, 5, 0] rfl)
    · refine lv_iload hx hb dX6_mention_43 (lv_at hl 5 rfl) ?_
      refine q_callSI (As := [.int po]) (r := q_b (mB po 8)) hx hb hml hown hT hK hP hD hS hA (c_X6_isPost l D cA po) k_X6_isPost kl_X6_96 hl rfl rfl (Nat.le_of_ble_eq_true rfl) ⟨⟨rfl, rfl⟩, Nat.le_of_ble_eq_true rfl, Nat.le_of_ble_eq_true rfl⟩ ⟨Nat.zero_le _, Nat.zero_le _⟩ dX6_mention_45 (fun H locs hP hD hS => ?_)
      refine lv_if_ne (tgt := 55) hx hb dX6_mention_48 (by decide) (fun c_48 => ?_) (fun c_48 => ?_)
      · have c_48 := q_b0n c_48
        exact zqJ55   _ _ _ hP hD hS (lv_sub hl [1, 2, 3, 4, 5, 0] rfl)
      · have c_48 := q_b0e c_48
        exact absurd c_48 (mB_F (hpo.resolve_left c_40) (by omega))
  refine lv_iload_n hx hb dX6_mention_0 rfl (lv_at hl 1 rfl) ?_
  refine lv_iconst (v := nI 0) hx hb dX6_mention_1 (by decide +kernel) ?_
  refine lv_bipush (v := nI 9) hx hb dX6_mention_2 (by decide +kernel) ?_
  refine q_callSI (As := [.int nm, .int (nI 0), .int (nI 9)]) (r := q_b (iN nm (nI 0) (nI 9))) hx hb hml hown hT hK hP hD hS hA (c_X6_isIn l D cA nm (nI 0) (nI 9)) k_X6_isIn kl_X6_89 hl rfl rfl (Nat.le_of_ble_eq_true rfl) ⟨⟨rfl, rfl⟩, Nat.le_of_ble_eq_true rfl, Nat.le_of_ble_eq_true rfl⟩ ⟨Nat.zero_le _, Nat.zero_le _⟩ dX6_mention_4 (fun H locs hP hD hS => ?_)
  refine lv_if_eq (tgt := 33) hx hb dX6_mention_7 (by decide) (fun c_7 => ?_) (fun c_7 => ?_)
  · have c_7 := q_b0e c_7
    refine lv_iconst (v := nI 0) hx hb dX6_mention_33 (by decide +kernel) ?_
    refine q_top (y := q_b (iN nm (nI 0) (nI 9) && iN fm (-1) (nI 9) && iN pl (nI 0) (nI 5))) (by first | exact q_bt (by rw [c_7, c_17, c_26]; rfl) | exact q_bf (by rw [c_7]; rfl) | exact q_bf (by rw [c_7, c_17]; rfl) | exact q_bf (by rw [c_7, c_17, c_26]; rfl)) ?_
    exact zqJ34   _ _ _ hP hD hS (lv_sub hl [0, 1, 2, 3, 4] rfl)
  · have c_7 := q_b0n c_7
    refine lv_iload_n hx hb dX6_mention_10 rfl (lv_at hl 2 rfl) ?_
    refine lv_iconst (v := (-1)) hx hb dX6_mention_11 (by decide +kernel) ?_
    refine lv_bipush (v := nI 9) hx hb dX6_mention_12 (by decide +kernel) ?_
    refine q_callSI (As := [.int fm, .int (-1), .int (nI 9)]) (r := q_b (iN fm (-1) (nI 9))) hx hb hml hown hT hK hP hD hS hA (c_X6_isIn l D cA fm (-1) (nI 9)) k_X6_isIn kl_X6_89 hl rfl rfl (Nat.le_of_ble_eq_true rfl) ⟨⟨rfl, rfl⟩, Nat.le_of_ble_eq_true rfl, Nat.le_of_ble_eq_true rfl⟩ ⟨Nat.zero_le _, Nat.zero_le _⟩ dX6_mention_14 (fun H locs hP hD hS => ?_)
    refine lv_if_eq (tgt := 33) hx hb dX6_mention_17 (by decide) (fun c_17 => ?_) (fun c_17 => ?_)
    · have c_17 := q_b0e c_17
      refine lv_iconst (v := nI 0) hx hb dX6_mention_33 (by decide +kernel) ?_
      refine q_top (y := q_b (iN nm (nI 0) (nI 9) && iN fm (-1) (nI 9) && iN pl (nI 0) (nI 5))) (by first | exact q_bt (by rw [c_7, c_17, c_26]; rfl) | exact q_bf (by rw [c_7]; rfl) | exact q_bf (by rw [c_7, c_17]; rfl) | exact q_bf (by rw [c_7, c_17, c_26]; rfl)) ?_
      exact zqJ34   _ _ _ hP hD hS (lv_sub hl [0, 1, 2, 3, 4] rfl)
    · have c_17 := q_b0n c_17
      refine lv_iload_n hx hb dX6_mention_20 rfl (lv_at hl 3 rfl) ?_
      refine lv_iconst (v := nI 0) hx hb dX6_mention_21 (by decide +kernel) ?_
      refine lv_iconst (v := nI 5) hx hb dX6_mention_22 (by decide +kernel) ?_
      refine q_callSI (As := [.int pl, .int (nI 0), .int (nI 5)]) (r := q_b (iN pl (nI 0) (nI 5))) hx hb hml hown hT hK hP hD hS hA (c_X6_isIn l D cA pl (nI 0) (nI 5)) k_X6_isIn kl_X6_89 hl rfl rfl (Nat.le_of_ble_eq_true rfl) ⟨⟨rfl, rfl⟩, Nat.le_of_ble_eq_true rfl, Nat.le_of_ble_eq_true rfl⟩ ⟨Nat.zero_le _, Nat.zero_le _⟩ dX6_mention_23 (fun H locs hP hD hS => ?_)
      refine lv_if_eq (tgt := 33) hx hb dX6_mention_26 (by decide) (fun c_26 => ?_) (fun c_26 => ?_)
      · have c_26 := q_b0e c_26
        refine lv_iconst (v := nI 0) hx hb dX6_mention_33 (by decide +kernel) ?_
        refine q_top (y := q_b (iN nm (nI 0) (nI 9) && iN fm (-1) (nI 9) && iN pl (nI 0) (nI 5))) (by first | exact q_bt (by rw [c_7, c_17, c_26]; rfl) | exact q_bf (by rw [c_7]; rfl) | exact q_bf (by rw [c_7, c_17]; rfl) | exact q_bf (by rw [c_7, c_17, c_26]; rfl)) ?_
        exact zqJ34   _ _ _ hP hD hS (lv_sub hl [0, 1, 2, 3, 4] rfl)
      · have c_26 := q_b0n c_26
        refine lv_iconst (v := nI 1) hx hb dX6_mention_29 (by decide +kernel) ?_
        refine lv_goto (tgt := 34) hx hb dX6_mention_30 (by decide) ?_
        refine q_top (y := q_b (iN nm (nI 0) (nI 9) && iN fm (-1) (nI 9) && iN pl (nI 0) (nI 5))) (by first | exact q_bt (by rw [c_7, c_17, c_26]; rfl) | exact q_bf (by rw [c_7]; rfl) | exact q_bf (by rw [c_7, c_17]; rfl) | exact q_bf (by rw [c_7, c_17, c_26]; rfl)) ?_
        exact zqJ34   _ _ _ hP hD hS (lv_sub hl [0, 1, 2, 3, 4] rfl)
abbrev rm_X6_rank : Room := { frames := 2, cells := 0, slots := 0, locals := 42 }
set_option maxRecDepth 100000 in
set_option maxHeartbeats 4000000 in
theorem c_X6_rank (l : Launch) (D : va_G) (cA : ClassId) (ad : Nat → Nat) (g : Nat → Nat → Int32) (z : Nat → Nat) (i : Nat) (rk : Int32) (hi : i < 8) (hrk : ¬ rk < nI 0 ∧ rk ≤ nI 9) : q_CI l yX6_rank [Cond.code yX6_rank cX6_rank 4 (some .int)] rm_X6_rank D cA [.ref (ad 80), .int (nI i), .int rk] (mdW cA ad g z) ((g 5) i) (mdW cA ad (gs g 5 (upd (g 5) i rk)) (zs z 4 0)) := by
  refine q_startI RX6 (by decide +kernel) rfl (Nat.le_of_ble_eq_true rfl) ?_
  intro p e s m below meth c A args H locs ls hx hb hr hml hown hT hlk hP hK hD hA hS hl
  have hl : lv_has ls 4 [(0, .ref (ad 80)), (1, .int (nI i)), (2, .int rk)] := hl
  refine lv_aload_n hx hb dX6_rank_0 rfl (lv_at hl 0 rfl) ?_
  refine lv_iload_n hx hb dX6_rank_1 rfl (lv_at hl 1 rfl) ?_
  refine q_callSI (As := [.int (nI i)]) (r := q_b (mB (nI i) 8)) hx hb hml hown hT hK hP hD hS hA (c_X6_isPost l D cA (nI i)) k_X6_isPost kl_X6_96 hl rfl rfl (Nat.le_of_ble_eq_true rfl) ⟨⟨rfl, rfl⟩, Nat.le_of_ble_eq_true rfl, Nat.le_of_ble_eq_true rfl⟩ ⟨Nat.zero_le _, Nat.zero_le _⟩ dX6_rank_2 (fun H locs hP hD hS => ?_)
  refine lv_if_ne (tgt := 12) hx hb dX6_rank_5 (by decide) (fun c_5 => ?_) (fun c_5 => ?_)
  · have c_5 := q_b0n c_5
    refine lv_iload_n hx hb dX6_rank_12 rfl (lv_at hl 2 rfl) ?_
    refine lv_iconst (v := nI 0) hx hb dX6_rank_13 (by decide +kernel) ?_
    refine lv_bipush (v := nI 9) hx hb dX6_rank_14 (by decide +kernel) ?_
    refine q_callSI (As := [.int rk, .int (nI 0), .int (nI 9)]) (r := q_b (iN rk (nI 0) (nI 9))) hx hb hml hown hT hK hP hD hS hA (c_X6_isIn l D cA rk (nI 0) (nI 9)) k_X6_isIn kl_X6_89 hl rfl rfl (Nat.le_of_ble_eq_true rfl) ⟨⟨rfl, rfl⟩, Nat.le_of_ble_eq_true rfl, Nat.le_of_ble_eq_true rfl⟩ ⟨Nat.zero_le _, Nat.zero_le _⟩ dX6_rank_16 (fun H locs hP hD hS => ?_)
    refine lv_if_ne (tgt := 26) hx hb dX6_rank_19 (by decide) (fun c_19 => ?_) (fun c_19 => ?_)
    · have c_19 := q_b0n c_19
      refine lv_iconst (v := nI 0) hx hb dX6_rank_26 (by decide +kernel) ?_
      refine q_put (ty := .int) (ws1 := mdW cA ad g (zs z 4 0)) hx hb hT hown hK hP hD hS kw_X6 tyX6_ok nmX6 0 rfl rfl 27 (by decide) kf_X6_82 rfl rfl (by decide +kernel) rfl rfl (Nat.le_of_ble_eq_true rfl) rfl dX6_rank_27 (fun H locs hP hD hS => ?_)
      refine lv_aload_n hx hb dX6_rank_30 rfl (lv_at hl 0 rfl) ?_
      refine q_get hx hb hT hown hK hP kw_X6 0 rfl rfl 27 (by decide) kf_X6_82 rfl (v := .int (nI 0)) rfl dX6_rank_31 ?_
      refine lv_if_le (tgt := 39) hx hb dX6_rank_34 (by decide) (fun c_34 => ?_) (fun c_34 => ?_)
      · have c_34 := nI_le1 (a := 0) (b := 0) (by omega) (by omega) c_34
        refine lv_aload_n hx hb dX6_rank_39 rfl (lv_at hl 0 rfl) ?_
        refine q_get hx hb hT hown hK hP kw_X6 0 rfl rfl 5 (by decide) kf_X6_22 rfl (v := .ref (ad 5)) rfl dX6_rank_40 ?_
        refine lv_iload_n hx hb dX6_rank_43 rfl (lv_at hl 1 rfl) ?_
        refine q_iald (f := g 5) hx hb hK hP 5 0 rfl rfl (i) rfl (by omega) (by omega) dX6_rank_44 ?_
        refine lv_istore_n (lv' := [(3, .int (g 5 i)), (0, .ref (ad 80)), (1, .int (nI i)), (2, .int rk)]) hx hb dX6_rank_45 rfl hl (by decide) rfl (fun ls hl => ?_)
        refine lv_aload_n hx hb dX6_rank_46 rfl (lv_at hl 1 rfl) ?_
        refine q_get hx hb hT hown hK hP kw_X6 0 rfl rfl 5 (by decide) kf_X6_22 rfl (v := .ref (ad 5)) rfl dX6_rank_47 ?_
        refine lv_iload_n hx hb dX6_rank_50 rfl (lv_at hl 2 rfl) ?_
        refine lv_iload_n hx hb dX6_rank_51 rfl (lv_at hl 3 rfl) ?_
        refine q_iast (f := g 5) (ws1 := mdW cA ad (gs g 5 (upd (g 5) i rk)) (zs z 4 0)) hx hb hK hP hD hS 5 0 rfl rfl (i) rfl (by omega) (by omega) rfl dX6_rank_52 (fun H locs hP hD hS => ?_)
        obtain ⟨nF52_5, enF52_5⟩ : ∃ y : Nat → Int32, y = upd (g 5) i rk := ⟨_, rfl⟩
        have hP : va_P D vwCl (mdW cA ad (gs g 5 nF52_5) (zs z 4 0)) H := by rw [enF52_5]; exact hP
        have hD : va_D A (mdW cA ad (gs g 5 nF52_5) (zs z 4 0)) := by rw [enF52_5]; exact hD
        refine lv_iload_n hx hb dX6_rank_53 rfl (lv_at hl 0 rfl) ?_
        rw [enF52_5] at hP hD
        exact q_iret hx hb hr hlk (by rfl) hP hS dX6_rank_54
      · have c_34 := nI_le0 (a := 0) (b := 0) (by omega) (by omega) c_34
        exfalso; omega
    · have c_19 := q_b0e c_19
      exact absurd c_19 (by rw [iN_t hrk]; decide)
  · have c_5 := q_b0e c_5
    exact absurd c_5 (mB_F (q_r_nI (by omega)) (by omega))
abbrev rm_X6_rankx : Room := { frames := 2, cells := 0, slots := 0, locals := 42 }
set_option maxRecDepth 100000 in
set_option maxHeartbeats 4000000 in
theorem c_X6_rankx (l : Launch) (D : va_G) (cA : ClassId) (ad : Nat → Nat) (g : Nat → Nat → Int32) (z : Nat → Nat) (w : Int32) (rk : Int32) (hw : ¬ q_r w 8) : q_CI l yX6_rank [Cond.code yX6_rank cX6_rank 4 (some .int)] rm_X6_rankx D cA [.ref (ad 80), .int w, .int rk] (mdW cA ad g z) (nI 0) (mdW cA ad g (zs z 4 1)) := by
  refine q_startI RX6 (by decide +kernel) rfl (Nat.le_of_ble_eq_true rfl) ?_
  intro p e s m below meth c A args H locs ls hx hb hr hml hown hT hlk hP hK hD hA hS hl
  have hl : lv_has ls 4 [(0, .ref (ad 80)), (1, .int w), (2, .int rk)] := hl
  refine lv_aload_n hx hb dX6_rank_0 rfl (lv_at hl 0 rfl) ?_
  refine lv_iload_n hx hb dX6_rank_1 rfl (lv_at hl 1 rfl) ?_
  refine q_callSI (As := [.int w]) (r := q_b (mB w 8)) hx hb hml hown hT hK hP hD hS hA (c_X6_isPost l D cA w) k_X6_isPost kl_X6_96 hl rfl rfl (Nat.le_of_ble_eq_true rfl) ⟨⟨rfl, rfl⟩, Nat.le_of_ble_eq_true rfl, Nat.le_of_ble_eq_true rfl⟩ ⟨Nat.zero_le _, Nat.zero_le _⟩ dX6_rank_2 (fun H locs hP hD hS => ?_)
  refine lv_if_ne (tgt := 12) hx hb dX6_rank_5 (by decide) (fun c_5 => ?_) (fun c_5 => ?_)
  · have c_5 := q_b0n c_5
    exact absurd c_5 (mB_T hw (by omega))
  · have c_5 := q_b0e c_5
    refine lv_iconst (v := nI 1) hx hb dX6_rank_8 (by decide +kernel) ?_
    refine lv_goto (tgt := 27) hx hb dX6_rank_9 (by decide) ?_
    refine q_put (ty := .int) (ws1 := mdW cA ad g (zs z 4 1)) hx hb hT hown hK hP hD hS kw_X6 tyX6_ok nmX6 0 rfl rfl 27 (by decide) kf_X6_82 rfl rfl (by decide +kernel) rfl rfl (Nat.le_of_ble_eq_true rfl) rfl dX6_rank_27 (fun H locs hP hD hS => ?_)
    refine lv_aload_n hx hb dX6_rank_30 rfl (lv_at hl 0 rfl) ?_
    refine q_get hx hb hT hown hK hP kw_X6 0 rfl rfl 27 (by decide) kf_X6_82 rfl (v := .int (nI 1)) rfl dX6_rank_31 ?_
    refine lv_if_le (tgt := 39) hx hb dX6_rank_34 (by decide) (fun c_34 => ?_) (fun c_34 => ?_)
    · have c_34 := nI_le1 (a := 1) (b := 0) (by omega) (by omega) c_34
      exfalso; omega
    · have c_34 := nI_le0 (a := 1) (b := 0) (by omega) (by omega) c_34
      refine lv_iconst (v := nI 0) hx hb dX6_rank_37 (by decide +kernel) ?_
      exact q_iret hx hb hr hlk (by rfl) hP hS dX6_rank_38
abbrev rm_X6_rankx2 : Room := { frames := 2, cells := 0, slots := 0, locals := 42 }
set_option maxRecDepth 100000 in
set_option maxHeartbeats 4000000 in
theorem c_X6_rankx2 (l : Launch) (D : va_G) (cA : ClassId) (ad : Nat → Nat) (g : Nat → Nat → Int32) (z : Nat → Nat) (w : Int32) (rk : Int32) (hw : q_r w 8) (hrk : ¬ (¬ rk < nI 0 ∧ rk ≤ nI 9)) : q_CI l yX6_rank [Cond.code yX6_rank cX6_rank 4 (some .int)] rm_X6_rankx2 D cA [.ref (ad 80), .int w, .int rk] (mdW cA ad g z) (nI 0) (mdW cA ad g (zs z 4 2)) := by
  refine q_startI RX6 (by decide +kernel) rfl (Nat.le_of_ble_eq_true rfl) ?_
  intro p e s m below meth c A args H locs ls hx hb hr hml hown hT hlk hP hK hD hA hS hl
  have hl : lv_has ls 4 [(0, .ref (ad 80)), (1, .int w), (2, .int rk)] := hl
  refine lv_aload_n hx hb dX6_rank_0 rfl (lv_at hl 0 rfl) ?_
  refine lv_iload_n hx hb dX6_rank_1 rfl (lv_at hl 1 rfl) ?_
  refine q_callSI (As := [.int w]) (r := q_b (mB w 8)) hx hb hml hown hT hK hP hD hS hA (c_X6_isPost l D cA w) k_X6_isPost kl_X6_96 hl rfl rfl (Nat.le_of_ble_eq_true rfl) ⟨⟨rfl, rfl⟩, Nat.le_of_ble_eq_true rfl, Nat.le_of_ble_eq_true rfl⟩ ⟨Nat.zero_le _, Nat.zero_le _⟩ dX6_rank_2 (fun H locs hP hD hS => ?_)
  refine lv_if_ne (tgt := 12) hx hb dX6_rank_5 (by decide) (fun c_5 => ?_) (fun c_5 => ?_)
  · have c_5 := q_b0n c_5
    refine lv_iload_n hx hb dX6_rank_12 rfl (lv_at hl 2 rfl) ?_
    refine lv_iconst (v := nI 0) hx hb dX6_rank_13 (by decide +kernel) ?_
    refine lv_bipush (v := nI 9) hx hb dX6_rank_14 (by decide +kernel) ?_
    refine q_callSI (As := [.int rk, .int (nI 0), .int (nI 9)]) (r := q_b (iN rk (nI 0) (nI 9))) hx hb hml hown hT hK hP hD hS hA (c_X6_isIn l D cA rk (nI 0) (nI 9)) k_X6_isIn kl_X6_89 hl rfl rfl (Nat.le_of_ble_eq_true rfl) ⟨⟨rfl, rfl⟩, Nat.le_of_ble_eq_true rfl, Nat.le_of_ble_eq_true rfl⟩ ⟨Nat.zero_le _, Nat.zero_le _⟩ dX6_rank_16 (fun H locs hP hD hS => ?_)
    refine lv_if_ne (tgt := 26) hx hb dX6_rank_19 (by decide) (fun c_19 => ?_) (fun c_19 => ?_)
    · have c_19 := q_b0n c_19
      exact absurd (iN_e c_19) hrk
    · have c_19 := q_b0e c_19
      refine lv_iconst (v := nI 2) hx hb dX6_rank_22 (by decide +kernel) ?_
      refine lv_goto (tgt := 27) hx hb dX6_rank_23 (by decide) ?_
      refine q_put (ty := .int) (ws1 := mdW cA ad g (zs z 4 2)) hx hb hT hown hK hP hD hS kw_X6 tyX6_ok nmX6 0 rfl rfl 27 (by decide) kf_X6_82 rfl rfl (by decide +kernel) rfl rfl (Nat.le_of_ble_eq_true rfl) rfl dX6_rank_27 (fun H locs hP hD hS => ?_)
      refine lv_aload_n hx hb dX6_rank_30 rfl (lv_at hl 0 rfl) ?_
      refine q_get hx hb hT hown hK hP kw_X6 0 rfl rfl 27 (by decide) kf_X6_82 rfl (v := .int (nI 2)) rfl dX6_rank_31 ?_
      refine lv_if_le (tgt := 39) hx hb dX6_rank_34 (by decide) (fun c_34 => ?_) (fun c_34 => ?_)
      · have c_34 := nI_le1 (a := 2) (b := 0) (by omega) (by omega) c_34
        exfalso; omega
      · have c_34 := nI_le0 (a := 2) (b := 0) (by omega) (by omega) c_34
        refine lv_iconst (v := nI 0) hx hb dX6_rank_37 (by decide +kernel) ?_
        exact q_iret hx hb hr hlk (by rfl) hP hS dX6_rank_38
  · have c_5 := q_b0e c_5
    exact absurd c_5 (mB_F hw (by omega))
abbrev rm_X6_bar : Room := { frames := 2, cells := 0, slots := 0, locals := 42 }
set_option maxRecDepth 100000 in
set_option maxHeartbeats 4000000 in
theorem c_X6_bar (l : Launch) (D : va_G) (cA : ClassId) (ad : Nat → Nat) (g : Nat → Nat → Int32) (z : Nat → Nat) (i : Nat) (j : Nat) (is : Bool) (hi : i < 8) (hj : j < 8) (hne : ¬ i = j) : q_CI l yX6_bar [Cond.code yX6_bar cX6_bar 5 (some .boolean)] rm_X6_bar D cA [.ref (ad 80), .int (nI i), .int (nI j), .int (q_b is)] (mdW cA ad g z) (q_b (hasB ((g 8) i) (nI j))) (mdW cA ad (gs g 8 (tellF is (g 8) i j)) (zs z 4 0)) := by
  refine q_startI RX6 (by decide +kernel) rfl (Nat.le_of_ble_eq_true rfl) ?_
  intro p e s m below meth c A args H locs ls hx hb hr hml hown hT hlk hP hK hD hA hS hl
  have hl : lv_has ls 5 [(0, .ref (ad 80)), (1, .int (nI i)), (2, .int (nI j)), (3, .int (q_b is))] := hl
  have zqJ122 : ∀ (H : Heap) (locs : List Loc) (ls : Array Slot), va_P D vwCl (mdW cA ad (gs g 8 (upd (g 8) i (bitS is ((g 8) i) (nI j)))) (zs z 4 0)) H → va_D A (mdW cA ad (gs g 8 (upd (g 8) i (bitS is ((g 8) i) (nI j)))) (zs z 4 0)) → va_S A s.heap H locs → lv_has ls 5 [(0, .ref (ad 80)), (1, .int (nI i)), (2, .int (nI j)), (3, .int (q_b is)), (4, .int (q_b (hasB ((g 8) i) (nI j))))] → W p l e rm_X6_bar s m args below meth c H locs 0 0 (q_GI D (q_b (hasB ((g 8) i) (nI j))) (mdW cA ad (gs g 8 (tellF is (g 8) i j)) (zs z 4 0)) A below args s) (F0 m 122 ls [.int (bitS is (upd (g 8) i (bitS is ((g 8) i) (nI j)) j) (nI i)), .int (nI j), .ref (ad 8)]) := by
    intro   H locs ls hP hD hS hl
    refine q_iast (f := upd (g 8) i (bitS is ((g 8) i) (nI j))) (ws1 := mdW cA ad (gs g 8 (upd (upd (g 8) i (bitS is ((g 8) i) (nI j))) j (bitS is (upd (g 8) i (bitS is ((g 8) i) (nI j)) j) (nI i)))) (zs z 4 0)) hx hb hK hP hD hS 6 0 rfl rfl (j) rfl (by omega) (by omega) rfl dX6_bar_122 (fun H locs hP hD hS => ?_)
    obtain ⟨nF122_8, enF122_8⟩ : ∃ y : Nat → Int32, y = upd (upd (g 8) i (bitS is ((g 8) i) (nI j))) j (bitS is (upd (g 8) i (bitS is ((g 8) i) (nI j)) j) (nI i)) := ⟨_, rfl⟩
    have hP : va_P D vwCl (mdW cA ad (gs g 8 nF122_8) (zs z 4 0)) H := by rw [enF122_8]; exact hP
    have hD : va_D A (mdW cA ad (gs g 8 nF122_8) (zs z 4 0)) := by rw [enF122_8]; exact hD
    refine lv_iload hx hb dX6_bar_123 (lv_at hl 4 rfl) ?_
    rw [enF122_8] at hP hD
    exact q_zret hx hb hr hlk (q_b_or _) (by rfl) (va_cast' hP (by rfl)) hS dX6_bar_125
  have zqJ87 : ∀ (H : Heap) (locs : List Loc) (ls : Array Slot), va_P D vwCl (mdW cA ad g (zs z 4 0)) H → va_D A (mdW cA ad g (zs z 4 0)) → va_S A s.heap H locs → lv_has ls 5 [(0, .ref (ad 80)), (1, .int (nI i)), (2, .int (nI j)), (3, .int (q_b is)), (4, .int (q_b (hasB ((g 8) i) (nI j))))] → W p l e rm_X6_bar s m args below meth c H locs 0 0 (q_GI D (q_b (hasB ((g 8) i) (nI j))) (mdW cA ad (gs g 8 (tellF is (g 8) i j)) (zs z 4 0)) A below args s) (F0 m 87 ls [.int (bitS is ((g 8) i) (nI j)), .int (nI i), .ref (ad 8)]) := by
    intro   H locs ls hP hD hS hl
    refine q_iast (f := g 8) (ws1 := mdW cA ad (gs g 8 (upd (g 8) i (bitS is ((g 8) i) (nI j)))) (zs z 4 0)) hx hb hK hP hD hS 6 0 rfl rfl (i) rfl (by omega) (by omega) rfl dX6_bar_87 (fun H locs hP hD hS => ?_)
    obtain ⟨nF87_8, enF87_8⟩ : ∃ y : Nat → Int32, y = upd (g 8) i (bitS is ((g 8) i) (nI j)) := ⟨_, rfl⟩
    have hP : va_P D vwCl (mdW cA ad (gs g 8 nF87_8) (zs z 4 0)) H := by rw [enF87_8]; exact hP
    have hD : va_D A (mdW cA ad (gs g 8 nF87_8) (zs z 4 0)) := by rw [enF87_8]; exact hD
    refine lv_aload_n hx hb dX6_bar_88 rfl (lv_at hl 0 rfl) ?_
    refine q_get hx hb hT hown hK hP kw_X6 0 rfl rfl 6 (by decide) kf_X6_25 rfl (v := .ref (ad 8)) rfl dX6_bar_89 ?_
    refine lv_iload_n hx hb dX6_bar_92 rfl (lv_at hl 2 rfl) ?_
    refine lv_iload_n hx hb dX6_bar_93 rfl (lv_at hl 3 rfl) ?_
    refine lv_if_eq (tgt := 110) hx hb dX6_bar_94 (by decide) (fun c_94 => ?_) (fun c_94 => ?_)
    · have c_94 := q_b0e c_94
      refine lv_aload_n hx hb dX6_bar_110 rfl (lv_at hl 0 rfl) ?_
      refine q_get hx hb hT hown hK hP kw_X6 0 rfl rfl 6 (by decide) kf_X6_25 rfl (v := .ref (ad 8)) rfl dX6_bar_111 ?_
      refine lv_iload_n hx hb dX6_bar_114 rfl (lv_at hl 2 rfl) ?_
      refine q_iald (f := nF87_8) hx hb hK hP 6 0 rfl rfl (j) rfl (by omega) (by omega) dX6_bar_115 ?_
      refine lv_iconst (v := nI 1) hx hb dX6_bar_116 (by decide +kernel) ?_
      refine lv_iload_n hx hb dX6_bar_117 rfl (lv_at hl 1 rfl) ?_
      refine lv_ishl hx hb dX6_bar_118 ?_
      refine lv_iconst (v := (-1)) hx hb dX6_bar_119 (by decide +kernel) ?_
      refine lv_ixor hx hb dX6_bar_120 ?_
      refine lv_iand hx hb dX6_bar_121 ?_
      rw [enF87_8] at hP hD
      rw [enF87_8]
      refine q_top (y := bitS is (upd (g 8) i (bitS is ((g 8) i) (nI j)) j) (nI i)) (by rw [c_94]; rfl) ?_
      exact zqJ122   _ _ _ hP hD hS (lv_sub hl [0, 1, 2, 3, 4] rfl)
    · have c_94 := q_b0n c_94
      refine lv_aload_n hx hb dX6_bar_97 rfl (lv_at hl 0 rfl) ?_
      refine q_get hx hb hT hown hK hP kw_X6 0 rfl rfl 6 (by decide) kf_X6_25 rfl (v := .ref (ad 8)) rfl dX6_bar_98 ?_
      refine lv_iload_n hx hb dX6_bar_101 rfl (lv_at hl 2 rfl) ?_
      refine q_iald (f := nF87_8) hx hb hK hP 6 0 rfl rfl (j) rfl (by omega) (by omega) dX6_bar_102 ?_
      refine lv_iconst (v := nI 1) hx hb dX6_bar_103 (by decide +kernel) ?_
      refine lv_iload_n hx hb dX6_bar_104 rfl (lv_at hl 1 rfl) ?_
      refine lv_ishl hx hb dX6_bar_105 ?_
      refine lv_ior hx hb dX6_bar_106 ?_
      refine lv_goto (tgt := 122) hx hb dX6_bar_107 (by decide) ?_
      rw [enF87_8] at hP hD
      rw [enF87_8]
      refine q_top (y := bitS is (upd (g 8) i (bitS is ((g 8) i) (nI j)) j) (nI i)) (by rw [c_94]; rfl) ?_
      exact zqJ122   _ _ _ hP hD hS (lv_sub hl [0, 1, 2, 3, 4] rfl)
  refine lv_aload_n hx hb dX6_bar_0 rfl (lv_at hl 0 rfl) ?_
  refine lv_iload_n hx hb dX6_bar_1 rfl (lv_at hl 1 rfl) ?_
  refine q_callSI (As := [.int (nI i)]) (r := q_b (mB (nI i) 8)) hx hb hml hown hT hK hP hD hS hA (c_X6_isPost l D cA (nI i)) k_X6_isPost kl_X6_96 hl rfl rfl (Nat.le_of_ble_eq_true rfl) ⟨⟨rfl, rfl⟩, Nat.le_of_ble_eq_true rfl, Nat.le_of_ble_eq_true rfl⟩ ⟨Nat.zero_le _, Nat.zero_le _⟩ dX6_bar_2 (fun H locs hP hD hS => ?_)
  refine lv_if_eq (tgt := 15) hx hb dX6_bar_5 (by decide) (fun c_5 => ?_) (fun c_5 => ?_)
  · have c_5 := q_b0e c_5
    exact absurd c_5 (mB_F (q_r_nI (by omega)) (by omega))
  · have c_5 := q_b0n c_5
    refine lv_iload_n hx hb dX6_bar_8 rfl (lv_at hl 2 rfl) ?_
    refine q_callSI (As := [.int (nI j)]) (r := q_b (mB (nI j) 8)) hx hb hml hown hT hK hP hD hS hA (c_X6_isPost l D cA (nI j)) k_X6_isPost kl_X6_96 hl rfl rfl (Nat.le_of_ble_eq_true rfl) ⟨⟨rfl, rfl⟩, Nat.le_of_ble_eq_true rfl, Nat.le_of_ble_eq_true rfl⟩ ⟨Nat.zero_le _, Nat.zero_le _⟩ dX6_bar_9 (fun H locs hP hD hS => ?_)
    refine lv_if_ne (tgt := 19) hx hb dX6_bar_12 (by decide) (fun c_12 => ?_) (fun c_12 => ?_)
    · have c_12 := q_b0n c_12
      refine lv_iload_n hx hb dX6_bar_19 rfl (lv_at hl 1 rfl) ?_
      refine lv_iload_n hx hb dX6_bar_20 rfl (lv_at hl 2 rfl) ?_
      refine lv_icmp_ne (tgt := 28) hx hb dX6_bar_21 (by decide) (fun c_21 => ?_) (fun c_21 => ?_)
      · have c_21 := nI_eq0 (a := i) (b := j) (by omega) (by omega) c_21
        refine lv_iconst (v := nI 0) hx hb dX6_bar_28 (by decide +kernel) ?_
        refine q_put (ty := .int) (ws1 := mdW cA ad g (zs z 4 0)) hx hb hT hown hK hP hD hS kw_X6 tyX6_ok nmX6 0 rfl rfl 27 (by decide) kf_X6_82 rfl rfl (by decide +kernel) rfl rfl (Nat.le_of_ble_eq_true rfl) rfl dX6_bar_29 (fun H locs hP hD hS => ?_)
        refine lv_aload_n hx hb dX6_bar_32 rfl (lv_at hl 0 rfl) ?_
        refine q_get hx hb hT hown hK hP kw_X6 0 rfl rfl 27 (by decide) kf_X6_82 rfl (v := .int (nI 0)) rfl dX6_bar_33 ?_
        refine lv_if_le (tgt := 41) hx hb dX6_bar_36 (by decide) (fun c_36 => ?_) (fun c_36 => ?_)
        · have c_36 := nI_le1 (a := 0) (b := 0) (by omega) (by omega) c_36
          refine lv_aload_n hx hb dX6_bar_41 rfl (lv_at hl 0 rfl) ?_
          refine q_get hx hb hT hown hK hP kw_X6 0 rfl rfl 6 (by decide) kf_X6_25 rfl (v := .ref (ad 8)) rfl dX6_bar_42 ?_
          refine lv_iload_n hx hb dX6_bar_45 rfl (lv_at hl 1 rfl) ?_
          refine q_iald (f := g 8) hx hb hK hP 6 0 rfl rfl (i) rfl (by omega) (by omega) dX6_bar_46 ?_
          refine lv_iload_n hx hb dX6_bar_47 rfl (lv_at hl 2 rfl) ?_
          refine q_callSI (As := [.int (g 8 i), .int (nI j)]) (r := q_b (hasB (g 8 i) (nI j))) hx hb hml hown hT hK hP hD hS hA (c_X6_has l D cA (g 8 i) (nI j)) k_X6_has kl_X6_104 hl rfl rfl (Nat.le_of_ble_eq_true rfl) ⟨⟨rfl, rfl⟩, Nat.le_of_ble_eq_true rfl, Nat.le_of_ble_eq_true rfl⟩ ⟨Nat.zero_le _, Nat.zero_le _⟩ dX6_bar_48 (fun H locs hP hD hS => ?_)
          refine lv_istore (lv' := [(4, .int (q_b (hasB (g 8 i) (nI j)))), (0, .ref (ad 80)), (1, .int (nI i)), (2, .int (nI j)), (3, .int (q_b is))]) hx hb dX6_bar_51 hl (by decide) rfl (fun ls hl => ?_)
          refine lv_aload_n hx hb dX6_bar_53 rfl (lv_at hl 1 rfl) ?_
          refine q_get hx hb hT hown hK hP kw_X6 0 rfl rfl 6 (by decide) kf_X6_25 rfl (v := .ref (ad 8)) rfl dX6_bar_54 ?_
          refine lv_iload_n hx hb dX6_bar_57 rfl (lv_at hl 2 rfl) ?_
          refine lv_iload_n hx hb dX6_bar_58 rfl (lv_at hl 4 rfl) ?_
          refine lv_if_eq (tgt := 75) hx hb dX6_bar_59 (by decide) (fun c_59 => ?_) (fun c_59 => ?_)
          · have c_59 := q_b0e c_59
            refine lv_aload_n hx hb dX6_bar_75 rfl (lv_at hl 1 rfl) ?_
            refine q_get hx hb hT hown hK hP kw_X6 0 rfl rfl 6 (by decide) kf_X6_25 rfl (v := .ref (ad 8)) rfl dX6_bar_76 ?_
            refine lv_iload_n hx hb dX6_bar_79 rfl (lv_at hl 2 rfl) ?_
            refine q_iald (f := g 8) hx hb hK hP 6 0 rfl rfl (i) rfl (by omega) (by omega) dX6_bar_80 ?_
            refine lv_iconst (v := nI 1) hx hb dX6_bar_81 (by decide +kernel) ?_
            refine lv_iload_n hx hb dX6_bar_82 rfl (lv_at hl 3 rfl) ?_
            refine lv_ishl hx hb dX6_bar_83 ?_
            refine lv_iconst (v := (-1)) hx hb dX6_bar_84 (by decide +kernel) ?_
            refine lv_ixor hx hb dX6_bar_85 ?_
            refine lv_iand hx hb dX6_bar_86 ?_
            refine q_top (y := bitS is ((g 8) i) (nI j)) (by rw [c_59]; rfl) ?_
            exact zqJ87   _ _ _ hP hD hS (lv_sub hl [1, 2, 3, 4, 0] rfl)
          · have c_59 := q_b0n c_59
            refine lv_aload_n hx hb dX6_bar_62 rfl (lv_at hl 1 rfl) ?_
            refine q_get hx hb hT hown hK hP kw_X6 0 rfl rfl 6 (by decide) kf_X6_25 rfl (v := .ref (ad 8)) rfl dX6_bar_63 ?_
            refine lv_iload_n hx hb dX6_bar_66 rfl (lv_at hl 2 rfl) ?_
            refine q_iald (f := g 8) hx hb hK hP 6 0 rfl rfl (i) rfl (by omega) (by omega) dX6_bar_67 ?_
            refine lv_iconst (v := nI 1) hx hb dX6_bar_68 (by decide +kernel) ?_
            refine lv_iload_n hx hb dX6_bar_69 rfl (lv_at hl 3 rfl) ?_
            refine lv_ishl hx hb dX6_bar_70 ?_
            refine lv_ior hx hb dX6_bar_71 ?_
            refine lv_goto (tgt := 87) hx hb dX6_bar_72 (by decide) ?_
            refine q_top (y := bitS is ((g 8) i) (nI j)) (by rw [c_59]; rfl) ?_
            exact zqJ87   _ _ _ hP hD hS (lv_sub hl [1, 2, 3, 4, 0] rfl)
        · have c_36 := nI_le0 (a := 0) (b := 0) (by omega) (by omega) c_36
          exfalso; omega
      · have c_21 := nI_eq1 (a := i) (b := j) (by omega) (by omega) c_21
        exfalso; omega
    · have c_12 := q_b0e c_12
      exact absurd c_12 (mB_F (q_r_nI (by omega)) (by omega))
abbrev rm_X6_barx : Room := { frames := 2, cells := 0, slots := 0, locals := 42 }
set_option maxRecDepth 100000 in
set_option maxHeartbeats 4000000 in
theorem c_X6_barx (l : Launch) (D : va_G) (cA : ClassId) (ad : Nat → Nat) (g : Nat → Nat → Int32) (z : Nat → Nat) (x : Int32) (y : Int32) (is : Bool) (h12 : ¬ (q_r x 8 ∧ q_r y 8)) : q_CI l yX6_bar [Cond.code yX6_bar cX6_bar 5 (some .boolean)] rm_X6_barx D cA [.ref (ad 80), .int x, .int y, .int (q_b is)] (mdW cA ad g z) (nI 0) (mdW cA ad g (zs z 4 1)) := by
  refine q_startI RX6 (by decide +kernel) rfl (Nat.le_of_ble_eq_true rfl) ?_
  intro p e s m below meth c A args H locs ls hx hb hr hml hown hT hlk hP hK hD hA hS hl
  have hl : lv_has ls 5 [(0, .ref (ad 80)), (1, .int x), (2, .int y), (3, .int (q_b is))] := hl
  refine lv_aload_n hx hb dX6_bar_0 rfl (lv_at hl 0 rfl) ?_
  refine lv_iload_n hx hb dX6_bar_1 rfl (lv_at hl 1 rfl) ?_
  refine q_callSI (As := [.int x]) (r := q_b (mB x 8)) hx hb hml hown hT hK hP hD hS hA (c_X6_isPost l D cA x) k_X6_isPost kl_X6_96 hl rfl rfl (Nat.le_of_ble_eq_true rfl) ⟨⟨rfl, rfl⟩, Nat.le_of_ble_eq_true rfl, Nat.le_of_ble_eq_true rfl⟩ ⟨Nat.zero_le _, Nat.zero_le _⟩ dX6_bar_2 (fun H locs hP hD hS => ?_)
  refine lv_if_eq (tgt := 15) hx hb dX6_bar_5 (by decide) (fun c_5 => ?_) (fun c_5 => ?_)
  · have c_5 := q_b0e c_5
    refine lv_iconst (v := nI 1) hx hb dX6_bar_15 (by decide +kernel) ?_
    refine lv_goto (tgt := 29) hx hb dX6_bar_16 (by decide) ?_
    refine q_put (ty := .int) (ws1 := mdW cA ad g (zs z 4 1)) hx hb hT hown hK hP hD hS kw_X6 tyX6_ok nmX6 0 rfl rfl 27 (by decide) kf_X6_82 rfl rfl (by decide +kernel) rfl rfl (Nat.le_of_ble_eq_true rfl) rfl dX6_bar_29 (fun H locs hP hD hS => ?_)
    refine lv_aload_n hx hb dX6_bar_32 rfl (lv_at hl 0 rfl) ?_
    refine q_get hx hb hT hown hK hP kw_X6 0 rfl rfl 27 (by decide) kf_X6_82 rfl (v := .int (nI 1)) rfl dX6_bar_33 ?_
    refine lv_if_le (tgt := 41) hx hb dX6_bar_36 (by decide) (fun c_36 => ?_) (fun c_36 => ?_)
    · have c_36 := nI_le1 (a := 1) (b := 0) (by omega) (by omega) c_36
      exfalso; omega
    · have c_36 := nI_le0 (a := 1) (b := 0) (by omega) (by omega) c_36
      refine lv_iconst (v := nI 0) hx hb dX6_bar_39 (by decide +kernel) ?_
      exact q_zret hx hb hr hlk (Or.inl rfl) (by rfl) hP hS dX6_bar_40
  · have c_5 := q_b0n c_5
    refine lv_iload_n hx hb dX6_bar_8 rfl (lv_at hl 2 rfl) ?_
    refine q_callSI (As := [.int y]) (r := q_b (mB y 8)) hx hb hml hown hT hK hP hD hS hA (c_X6_isPost l D cA y) k_X6_isPost kl_X6_96 hl rfl rfl (Nat.le_of_ble_eq_true rfl) ⟨⟨rfl, rfl⟩, Nat.le_of_ble_eq_true rfl, Nat.le_of_ble_eq_true rfl⟩ ⟨Nat.zero_le _, Nat.zero_le _⟩ dX6_bar_9 (fun H locs hP hD hS => ?_)
    refine lv_if_ne (tgt := 19) hx hb dX6_bar_12 (by decide) (fun c_12 => ?_) (fun c_12 => ?_)
    · have c_12 := q_b0n c_12
      exact absurd ⟨mB_t c_5 (by omega), mB_t c_12 (by omega)⟩ h12
    · have c_12 := q_b0e c_12
      refine lv_iconst (v := nI 1) hx hb dX6_bar_15 (by decide +kernel) ?_
      refine lv_goto (tgt := 29) hx hb dX6_bar_16 (by decide) ?_
      refine q_put (ty := .int) (ws1 := mdW cA ad g (zs z 4 1)) hx hb hT hown hK hP hD hS kw_X6 tyX6_ok nmX6 0 rfl rfl 27 (by decide) kf_X6_82 rfl rfl (by decide +kernel) rfl rfl (Nat.le_of_ble_eq_true rfl) rfl dX6_bar_29 (fun H locs hP hD hS => ?_)
      refine lv_aload_n hx hb dX6_bar_32 rfl (lv_at hl 0 rfl) ?_
      refine q_get hx hb hT hown hK hP kw_X6 0 rfl rfl 27 (by decide) kf_X6_82 rfl (v := .int (nI 1)) rfl dX6_bar_33 ?_
      refine lv_if_le (tgt := 41) hx hb dX6_bar_36 (by decide) (fun c_36 => ?_) (fun c_36 => ?_)
      · have c_36 := nI_le1 (a := 1) (b := 0) (by omega) (by omega) c_36
        exfalso; omega
      · have c_36 := nI_le0 (a := 1) (b := 0) (by omega) (by omega) c_36
        refine lv_iconst (v := nI 0) hx hb dX6_bar_39 (by decide +kernel) ?_
        exact q_zret hx hb hr hlk (Or.inl rfl) (by rfl) hP hS dX6_bar_40
abbrev rm_X6_barx3 : Room := { frames := 2, cells := 0, slots := 0, locals := 42 }
set_option maxRecDepth 100000 in
set_option maxHeartbeats 4000000 in
theorem c_X6_barx3 (l : Launch) (D : va_G) (cA : ClassId) (ad : Nat → Nat) (g : Nat → Nat → Int32) (z : Nat → Nat) (x : Int32) (y : Int32) (is : Bool) (h1 : q_r x 8) (h2 : q_r y 8) (hne : x = y) : q_CI l yX6_bar [Cond.code yX6_bar cX6_bar 5 (some .boolean)] rm_X6_barx3 D cA [.ref (ad 80), .int x, .int y, .int (q_b is)] (mdW cA ad g z) (nI 0) (mdW cA ad g (zs z 4 2)) := by
  refine q_startI RX6 (by decide +kernel) rfl (Nat.le_of_ble_eq_true rfl) ?_
  intro p e s m below meth c A args H locs ls hx hb hr hml hown hT hlk hP hK hD hA hS hl
  have hl : lv_has ls 5 [(0, .ref (ad 80)), (1, .int x), (2, .int y), (3, .int (q_b is))] := hl
  refine lv_aload_n hx hb dX6_bar_0 rfl (lv_at hl 0 rfl) ?_
  refine lv_iload_n hx hb dX6_bar_1 rfl (lv_at hl 1 rfl) ?_
  refine q_callSI (As := [.int x]) (r := q_b (mB x 8)) hx hb hml hown hT hK hP hD hS hA (c_X6_isPost l D cA x) k_X6_isPost kl_X6_96 hl rfl rfl (Nat.le_of_ble_eq_true rfl) ⟨⟨rfl, rfl⟩, Nat.le_of_ble_eq_true rfl, Nat.le_of_ble_eq_true rfl⟩ ⟨Nat.zero_le _, Nat.zero_le _⟩ dX6_bar_2 (fun H locs hP hD hS => ?_)
  refine lv_if_eq (tgt := 15) hx hb dX6_bar_5 (by decide) (fun c_5 => ?_) (fun c_5 => ?_)
  · have c_5 := q_b0e c_5
    exact absurd c_5 (mB_F h1 (by omega))
  · have c_5 := q_b0n c_5
    refine lv_iload_n hx hb dX6_bar_8 rfl (lv_at hl 2 rfl) ?_
    refine q_callSI (As := [.int y]) (r := q_b (mB y 8)) hx hb hml hown hT hK hP hD hS hA (c_X6_isPost l D cA y) k_X6_isPost kl_X6_96 hl rfl rfl (Nat.le_of_ble_eq_true rfl) ⟨⟨rfl, rfl⟩, Nat.le_of_ble_eq_true rfl, Nat.le_of_ble_eq_true rfl⟩ ⟨Nat.zero_le _, Nat.zero_le _⟩ dX6_bar_9 (fun H locs hP hD hS => ?_)
    refine lv_if_ne (tgt := 19) hx hb dX6_bar_12 (by decide) (fun c_12 => ?_) (fun c_12 => ?_)
    · have c_12 := q_b0n c_12
      refine lv_iload_n hx hb dX6_bar_19 rfl (lv_at hl 1 rfl) ?_
      refine lv_iload_n hx hb dX6_bar_20 rfl (lv_at hl 2 rfl) ?_
      refine lv_icmp_ne (tgt := 28) hx hb dX6_bar_21 (by decide) (fun c_21 => ?_) (fun c_21 => ?_)
      · exact absurd hne c_21
      · refine lv_iconst (v := nI 2) hx hb dX6_bar_24 (by decide +kernel) ?_
        refine lv_goto (tgt := 29) hx hb dX6_bar_25 (by decide) ?_
        refine q_put (ty := .int) (ws1 := mdW cA ad g (zs z 4 2)) hx hb hT hown hK hP hD hS kw_X6 tyX6_ok nmX6 0 rfl rfl 27 (by decide) kf_X6_82 rfl rfl (by decide +kernel) rfl rfl (Nat.le_of_ble_eq_true rfl) rfl dX6_bar_29 (fun H locs hP hD hS => ?_)
        refine lv_aload_n hx hb dX6_bar_32 rfl (lv_at hl 0 rfl) ?_
        refine q_get hx hb hT hown hK hP kw_X6 0 rfl rfl 27 (by decide) kf_X6_82 rfl (v := .int (nI 2)) rfl dX6_bar_33 ?_
        refine lv_if_le (tgt := 41) hx hb dX6_bar_36 (by decide) (fun c_36 => ?_) (fun c_36 => ?_)
        · have c_36 := nI_le1 (a := 2) (b := 0) (by omega) (by omega) c_36
          exfalso; omega
        · have c_36 := nI_le0 (a := 2) (b := 0) (by omega) (by omega) c_36
          refine lv_iconst (v := nI 0) hx hb dX6_bar_39 (by decide +kernel) ?_
          exact q_zret hx hb hr hlk (Or.inl rfl) (by rfl) hP hS dX6_bar_40
    · have c_12 := q_b0e c_12
      exact absurd c_12 (mB_F h2 (by omega))
abbrev rm_X6_ahead : Room := { frames := 2, cells := 0, slots := 0, locals := 43 }
set_option maxRecDepth 100000 in
set_option maxHeartbeats 4000000 in
theorem c_X6_ahead (l : Launch) (D : va_G) (cA : ClassId) (ad : Nat → Nat) (g : Nat → Nat → Int32) (z : Nat → Nat) (i : Nat) (j : Nat) (w : Int32) (u0 : Nat) (hi : i < (z 0)) (hj : j < (z 0)) (hc : (z 0) ≤ 16) (hne : ¬ i = j) (hw9 : ¬ w < (-50) ∧ w ≤ nI 50) (hE : ∀ k, k < (z 1) → q_r ((g 14) k) 16 ∧ q_r ((g 15) k) 16) (ht : (z 1) < 40) (hst : dtH u0 (upd (g 14) (z 1) (nI i)) (upd (g 15) (z 1) (nI j)) (upd (g 16) (z 1) w) (g 12) (g 13) (g 19) (g 20) ((z 1) + 1) (z 0)) (hd9 : (dtD u0 (upd (g 14) (z 1) (nI i)) (upd (g 15) (z 1) (nI j)) (upd (g 16) (z 1) w) (g 12) (g 13) (g 19) (g 20) ((z 1) + 1) (z 0)).2.2.1 = true) : q_CI l yX6_ahead [Cond.code yX6_ahead cX6_ahead 5 (some .int)] rm_X6_ahead D cA [.ref (ad 80), .int (nI i), .int (nI j), .int w] (mdW cA ad g z) (nI (mvd (dtD u0 (upd (g 14) (z 1) (nI i)) (upd (g 15) (z 1) (nI j)) (upd (g 16) (z 1) w) (g 12) (g 13) (g 19) (g 20) ((z 1) + 1) (z 0)).1 (dtD u0 (upd (g 14) (z 1) (nI i)) (upd (g 15) (z 1) (nI j)) (upd (g 16) (z 1) w) (g 12) (g 13) (g 19) (g 20) ((z 1) + 1) (z 0)).2.1 (g 17) (g 18) (z 0))) (mdW cA ad (gs (gs (gs (gs (gs (gs (gs g 14 (upd (g 14) (z 1) (nI i))) 15 (upd (g 15) (z 1) (nI j))) 16 (upd (g 16) (z 1) w)) 17 (copyTo (g 17) (dtD u0 (upd (g 14) (z 1) (nI i)) (upd (g 15) (z 1) (nI j)) (upd (g 16) (z 1) w) (g 12) (g 13) (g 19) (g 20) ((z 1) + 1) (z 0)).1 (z 0))) 18 (copyTo (g 18) (dtD u0 (upd (g 14) (z 1) (nI i)) (upd (g 15) (z 1) (nI j)) (upd (g 16) (z 1) w) (g 12) (g 13) (g 19) (g 20) ((z 1) + 1) (z 0)).2.1 (z 0))) 19 ((dtD u0 (upd (g 14) (z 1) (nI i)) (upd (g 15) (z 1) (nI j)) (upd (g 16) (z 1) w) (g 12) (g 13) (g 19) (g 20) ((z 1) + 1) (z 0)).1)) 20 ((dtD u0 (upd (g 14) (z 1) (nI i)) (upd (g 15) (z 1) (nI j)) (upd (g 16) (z 1) w) (g 12) (g 13) (g 19) (g 20) ((z 1) + 1) (z 0)).2.1)) (zs (zs z 1 ((z 1) + 1)) 4 0)) := by
  refine q_startI RX6 (by decide +kernel) rfl (Nat.le_of_ble_eq_true rfl) ?_
  intro p e s m below meth c A args H locs ls hx hb hr hml hown hT hlk hP hK hD hA hS hl
  have hl : lv_has ls 5 [(0, .ref (ad 80)), (1, .int (nI i)), (2, .int (nI j)), (3, .int w)] := hl
  refine lv_aload_n hx hb dX6_ahead_0 rfl (lv_at hl 0 rfl) ?_
  refine lv_aload_n hx hb dX6_ahead_1 rfl (lv_at hl 0 rfl) ?_
  refine lv_iload_n hx hb dX6_ahead_2 rfl (lv_at hl 1 rfl) ?_
  refine q_callIW (As := [.int (nI i)]) (r := q_b (mB (nI i) (z 0))) (w1 := mdW cA ad g z) hx hb hml hown hT hK hP hD hS hA (c_X6_isMention l D cA ad g z (nI i) (show (z 0) ≤ 16 by omega)) k_X6_isMention kl_X6_111 (q0 := 0) rfl rfl rfl ((mdW_adr _ _ _ _).trans (mdW_adr _ _ _ _).symm) hl rfl rfl (Nat.le_of_ble_eq_true rfl) ⟨⟨rfl, rfl⟩, Nat.le_of_ble_eq_true rfl, Nat.le_of_ble_eq_true rfl⟩ ⟨Nat.zero_le _, Nat.zero_le _⟩ dX6_ahead_3 (fun H locs hP hD hS => ?_)
  refine lv_if_eq (tgt := 17) hx hb dX6_ahead_6 (by decide) (fun c_6 => ?_) (fun c_6 => ?_)
  · have c_6 := q_b0e c_6
    exact absurd c_6 (mB_F (q_r_nI (by omega)) (by omega))
  · have c_6 := q_b0n c_6
    refine lv_aload_n hx hb dX6_ahead_9 rfl (lv_at hl 0 rfl) ?_
    refine lv_iload_n hx hb dX6_ahead_10 rfl (lv_at hl 2 rfl) ?_
    refine q_callIW (As := [.int (nI j)]) (r := q_b (mB (nI j) (z 0))) (w1 := mdW cA ad g z) hx hb hml hown hT hK hP hD hS hA (c_X6_isMention l D cA ad g z (nI j) (show (z 0) ≤ 16 by omega)) k_X6_isMention kl_X6_111 (q0 := 0) rfl rfl rfl ((mdW_adr _ _ _ _).trans (mdW_adr _ _ _ _).symm) hl rfl rfl (Nat.le_of_ble_eq_true rfl) ⟨⟨rfl, rfl⟩, Nat.le_of_ble_eq_true rfl, Nat.le_of_ble_eq_true rfl⟩ ⟨Nat.zero_le _, Nat.zero_le _⟩ dX6_ahead_11 (fun H locs hP hD hS => ?_)
    refine lv_if_ne (tgt := 21) hx hb dX6_ahead_14 (by decide) (fun c_14 => ?_) (fun c_14 => ?_)
    · have c_14 := q_b0n c_14
      refine lv_iload_n hx hb dX6_ahead_21 rfl (lv_at hl 1 rfl) ?_
      refine lv_iload_n hx hb dX6_ahead_22 rfl (lv_at hl 2 rfl) ?_
      refine lv_icmp_eq (tgt := 37) hx hb dX6_ahead_23 (by decide) (fun c_23 => ?_) (fun c_23 => ?_)
      · have c_23 := nI_eq1 (a := i) (b := j) (by omega) (by omega) c_23
        exfalso; omega
      · have c_23 := nI_eq0 (a := i) (b := j) (by omega) (by omega) c_23
        refine lv_iload_n hx hb dX6_ahead_26 rfl (lv_at hl 3 rfl) ?_
        refine lv_bipush (v := (-50)) hx hb dX6_ahead_27 (by decide +kernel) ?_
        refine lv_bipush (v := nI 50) hx hb dX6_ahead_29 (by decide +kernel) ?_
        refine q_callSI (As := [.int w, .int (-50), .int (nI 50)]) (r := q_b (iN w (-50) (nI 50))) hx hb hml hown hT hK hP hD hS hA (c_X6_isIn l D cA w (-50) (nI 50)) k_X6_isIn kl_X6_89 hl rfl rfl (Nat.le_of_ble_eq_true rfl) ⟨⟨rfl, rfl⟩, Nat.le_of_ble_eq_true rfl, Nat.le_of_ble_eq_true rfl⟩ ⟨Nat.zero_le _, Nat.zero_le _⟩ dX6_ahead_31 (fun H locs hP hD hS => ?_)
        refine lv_if_ne (tgt := 41) hx hb dX6_ahead_34 (by decide) (fun c_34 => ?_) (fun c_34 => ?_)
        · have c_34 := q_b0n c_34
          refine lv_aload_n hx hb dX6_ahead_41 rfl (lv_at hl 0 rfl) ?_
          refine q_get hx hb hT hown hK hP kw_X6 0 rfl rfl 17 (by decide) kf_X6_108 rfl (v := .int (nI (z 1))) rfl dX6_ahead_42 ?_
          refine lv_bipush (v := nI 40) hx hb dX6_ahead_45 (by decide +kernel) ?_
          refine lv_icmp_ne (tgt := 54) hx hb dX6_ahead_47 (by decide) (fun c_47 => ?_) (fun c_47 => ?_)
          · have c_47 := nI_eq0 (a := z 1) (b := 40) (by omega) (by omega) c_47
            refine lv_iconst (v := nI 0) hx hb dX6_ahead_54 (by decide +kernel) ?_
            refine q_put (ty := .int) (ws1 := mdW cA ad g (zs z 4 0)) hx hb hT hown hK hP hD hS kw_X6 tyX6_ok nmX6 0 rfl rfl 27 (by decide) kf_X6_82 rfl rfl (by decide +kernel) rfl rfl (Nat.le_of_ble_eq_true rfl) rfl dX6_ahead_55 (fun H locs hP hD hS => ?_)
            refine lv_aload_n hx hb dX6_ahead_58 rfl (lv_at hl 0 rfl) ?_
            refine q_get hx hb hT hown hK hP kw_X6 0 rfl rfl 27 (by decide) kf_X6_82 rfl (v := .int (nI 0)) rfl dX6_ahead_59 ?_
            refine lv_if_le (tgt := 67) hx hb dX6_ahead_62 (by decide) (fun c_62 => ?_) (fun c_62 => ?_)
            · have c_62 := nI_le1 (a := 0) (b := 0) (by omega) (by omega) c_62
              refine lv_aload_n hx hb dX6_ahead_67 rfl (lv_at hl 0 rfl) ?_
              refine q_get hx hb hT hown hK hP kw_X6 0 rfl rfl 18 (by decide) kf_X6_58 rfl (v := .ref (ad 14)) rfl dX6_ahead_68 ?_
              refine lv_aload_n hx hb dX6_ahead_71 rfl (lv_at hl 0 rfl) ?_
              refine q_get hx hb hT hown hK hP kw_X6 0 rfl rfl 17 (by decide) kf_X6_108 rfl (v := .int (nI (z 1))) rfl dX6_ahead_72 ?_
              refine lv_iload_n hx hb dX6_ahead_75 rfl (lv_at hl 1 rfl) ?_
              refine q_iast (f := g 14) (ws1 := mdW cA ad (gs g 14 (upd (g 14) (z 1) (nI i))) (zs z 4 0)) hx hb hK hP hD hS 17 0 rfl rfl (z 1) rfl (by omega) (by omega) rfl dX6_ahead_76 (fun H locs hP hD hS => ?_)
              refine lv_aload_n hx hb dX6_ahead_77 rfl (lv_at hl 0 rfl) ?_
              refine q_get hx hb hT hown hK hP kw_X6 0 rfl rfl 19 (by decide) kf_X6_61 rfl (v := .ref (ad 15)) rfl dX6_ahead_78 ?_
              refine lv_aload_n hx hb dX6_ahead_81 rfl (lv_at hl 0 rfl) ?_
              refine q_get hx hb hT hown hK hP kw_X6 0 rfl rfl 17 (by decide) kf_X6_108 rfl (v := .int (nI (z 1))) rfl dX6_ahead_82 ?_
              refine lv_iload_n hx hb dX6_ahead_85 rfl (lv_at hl 2 rfl) ?_
              refine q_iast (f := g 15) (ws1 := mdW cA ad (gs (gs g 14 (upd (g 14) (z 1) (nI i))) 15 (upd (g 15) (z 1) (nI j))) (zs z 4 0)) hx hb hK hP hD hS 18 0 rfl rfl (z 1) rfl (by omega) (by omega) rfl dX6_ahead_86 (fun H locs hP hD hS => ?_)
              refine lv_aload_n hx hb dX6_ahead_87 rfl (lv_at hl 0 rfl) ?_
              refine q_get hx hb hT hown hK hP kw_X6 0 rfl rfl 20 (by decide) kf_X6_64 rfl (v := .ref (ad 16)) rfl dX6_ahead_88 ?_
              refine lv_aload_n hx hb dX6_ahead_91 rfl (lv_at hl 0 rfl) ?_
              refine q_get hx hb hT hown hK hP kw_X6 0 rfl rfl 17 (by decide) kf_X6_108 rfl (v := .int (nI (z 1))) rfl dX6_ahead_92 ?_
              refine lv_iload_n hx hb dX6_ahead_95 rfl (lv_at hl 3 rfl) ?_
              refine q_iast (f := g 16) (ws1 := mdW cA ad (gs (gs (gs g 14 (upd (g 14) (z 1) (nI i))) 15 (upd (g 15) (z 1) (nI j))) 16 (upd (g 16) (z 1) w)) (zs z 4 0)) hx hb hK hP hD hS 19 0 rfl rfl (z 1) rfl (by omega) (by omega) rfl dX6_ahead_96 (fun H locs hP hD hS => ?_)
              refine lv_aload_n hx hb dX6_ahead_97 rfl (lv_at hl 0 rfl) ?_
              refine lv_dup hx hb dX6_ahead_98 rfl ?_
              refine q_get hx hb hT hown hK hP kw_X6 0 rfl rfl 17 (by decide) kf_X6_108 rfl (v := .int (nI (z 1))) rfl dX6_ahead_99 ?_
              refine lv_iconst (v := nI 1) hx hb dX6_ahead_102 (by decide +kernel) ?_
              refine lv_iadd hx hb dX6_ahead_103 ?_
              refine q_top (y := nI (z 1 + 1)) (nI_add _ _) ?_
              refine q_put (ty := .int) (ws1 := mdW cA ad (gs (gs (gs g 14 (upd (g 14) (z 1) (nI i))) 15 (upd (g 15) (z 1) (nI j))) 16 (upd (g 16) (z 1) w)) (zs (zs z 1 (z 1 + 1)) 4 0)) hx hb hT hown hK hP hD hS kw_X6 tyX6_ok nmX6 0 rfl rfl 17 (by decide) kf_X6_108 rfl rfl (by decide +kernel) rfl rfl (Nat.le_of_ble_eq_true rfl) rfl dX6_ahead_104 (fun H locs hP hD hS => ?_)
              refine lv_aload_n hx hb dX6_ahead_107 rfl (lv_at hl 0 rfl) ?_
              refine q_callIW (As := []) (r := q_b ((dtD u0 (upd (g 14) (z 1) (nI i)) (upd (g 15) (z 1) (nI j)) (upd (g 16) (z 1) w) (g 12) (g 13) (g 19) (g 20) (z 1 + 1) (z 0)).2.2.1)) (w1 := mdW cA ad (gs (gs (gs (gs (gs g 14 (upd (g 14) (z 1) (nI i))) 15 (upd (g 15) (z 1) (nI j))) 16 (upd (g 16) (z 1) w)) 19 ((dtD u0 (upd (g 14) (z 1) (nI i)) (upd (g 15) (z 1) (nI j)) (upd (g 16) (z 1) w) (g 12) (g 13) (g 19) (g 20) (z 1 + 1) (z 0)).1)) 20 ((dtD u0 (upd (g 14) (z 1) (nI i)) (upd (g 15) (z 1) (nI j)) (upd (g 16) (z 1) w) (g 12) (g 13) (g 19) (g 20) (z 1 + 1) (z 0)).2.1)) (zs (zs z 1 (z 1 + 1)) 4 0)) hx hb hml hown hT hK hP hD hS hA (c_X6_dates l D cA ad (gs (gs (gs g 14 (upd (g 14) (z 1) (nI i))) 15 (upd (g 15) (z 1) (nI j))) 16 (upd (g 16) (z 1) w)) (zs (zs z 1 (z 1 + 1)) 4 0) u0 (show (z 0) ≤ 16 by omega) (hE_add hE (i := i) (j := j) (by omega) (by omega)) (show (z 1 + 1) ≤ 40 by omega) hst) k_X6_dates kl_X6_114 (q0 := 0) rfl rfl rfl ((mdW_adr _ _ _ _).trans (mdW_adr _ _ _ _).symm) hl rfl rfl (Nat.le_of_ble_eq_true rfl) ⟨⟨rfl, rfl⟩, Nat.le_of_ble_eq_true rfl, Nat.le_of_ble_eq_true rfl⟩ ⟨Nat.zero_le _, Nat.zero_le _⟩ dX6_ahead_108 (fun H locs hP hD hS => ?_)
              refine lv_if_ne (tgt := 131) hx hb dX6_ahead_111 (by decide) (fun c_111 => ?_) (fun c_111 => ?_)
              · have c_111 := q_b0n c_111
                refine lv_aload_n hx hb dX6_ahead_131 rfl (lv_at hl 0 rfl) ?_
                refine q_callIW (As := []) (r := nI (mvd ((dtD u0 (upd (g 14) (z 1) (nI i)) (upd (g 15) (z 1) (nI j)) (upd (g 16) (z 1) w) (g 12) (g 13) (g 19) (g 20) (z 1 + 1) (z 0)).1) ((dtD u0 (upd (g 14) (z 1) (nI i)) (upd (g 15) (z 1) (nI j)) (upd (g 16) (z 1) w) (g 12) (g 13) (g 19) (g 20) (z 1 + 1) (z 0)).2.1) (g 17) (g 18) (z 0))) (w1 := mdW cA ad (gs (gs (gs (gs (gs g 14 (upd (g 14) (z 1) (nI i))) 15 (upd (g 15) (z 1) (nI j))) 16 (upd (g 16) (z 1) w)) 19 ((dtD u0 (upd (g 14) (z 1) (nI i)) (upd (g 15) (z 1) (nI j)) (upd (g 16) (z 1) w) (g 12) (g 13) (g 19) (g 20) (z 1 + 1) (z 0)).1)) 20 ((dtD u0 (upd (g 14) (z 1) (nI i)) (upd (g 15) (z 1) (nI j)) (upd (g 16) (z 1) w) (g 12) (g 13) (g 19) (g 20) (z 1 + 1) (z 0)).2.1)) (zs (zs z 1 (z 1 + 1)) 4 0)) hx hb hml hown hT hK hP hD hS hA (c_X6_moves l D cA ad (gs (gs (gs (gs (gs g 14 (upd (g 14) (z 1) (nI i))) 15 (upd (g 15) (z 1) (nI j))) 16 (upd (g 16) (z 1) w)) 19 ((dtD u0 (upd (g 14) (z 1) (nI i)) (upd (g 15) (z 1) (nI j)) (upd (g 16) (z 1) w) (g 12) (g 13) (g 19) (g 20) (z 1 + 1) (z 0)).1)) 20 ((dtD u0 (upd (g 14) (z 1) (nI i)) (upd (g 15) (z 1) (nI j)) (upd (g 16) (z 1) w) (g 12) (g 13) (g 19) (g 20) (z 1 + 1) (z 0)).2.1)) (zs (zs z 1 (z 1 + 1)) 4 0) (show (z 0) ≤ 16 by omega)) k_X6_moves kl_X6_118 (q0 := 0) rfl rfl rfl ((mdW_adr _ _ _ _).trans (mdW_adr _ _ _ _).symm) hl rfl rfl (Nat.le_of_ble_eq_true rfl) ⟨⟨rfl, rfl⟩, Nat.le_of_ble_eq_true rfl, Nat.le_of_ble_eq_true rfl⟩ ⟨Nat.zero_le _, Nat.zero_le _⟩ dX6_ahead_132 (fun H locs hP hD hS => ?_)
                refine lv_istore (lv' := [(4, .int (nI (mvd ((dtD u0 (upd (g 14) (z 1) (nI i)) (upd (g 15) (z 1) (nI j)) (upd (g 16) (z 1) w) (g 12) (g 13) (g 19) (g 20) (z 1 + 1) (z 0)).1) ((dtD u0 (upd (g 14) (z 1) (nI i)) (upd (g 15) (z 1) (nI j)) (upd (g 16) (z 1) w) (g 12) (g 13) (g 19) (g 20) (z 1 + 1) (z 0)).2.1) (g 17) (g 18) (z 0)))), (0, .ref (ad 80)), (1, .int (nI i)), (2, .int (nI j)), (3, .int w)]) hx hb dX6_ahead_135 hl (by decide) rfl (fun ls hl => ?_)
                refine lv_aload_n hx hb dX6_ahead_137 rfl (lv_at hl 1 rfl) ?_
                refine q_callVW (As := []) (w1 := mdW cA ad (gs (gs (gs (gs (gs (gs (gs g 14 (upd (g 14) (z 1) (nI i))) 15 (upd (g 15) (z 1) (nI j))) 16 (upd (g 16) (z 1) w)) 17 (copyTo (g 17) ((dtD u0 (upd (g 14) (z 1) (nI i)) (upd (g 15) (z 1) (nI j)) (upd (g 16) (z 1) w) (g 12) (g 13) (g 19) (g 20) (z 1 + 1) (z 0)).1) (z 0))) 18 (copyTo (g 18) ((dtD u0 (upd (g 14) (z 1) (nI i)) (upd (g 15) (z 1) (nI j)) (upd (g 16) (z 1) w) (g 12) (g 13) (g 19) (g 20) (z 1 + 1) (z 0)).2.1) (z 0))) 19 ((dtD u0 (upd (g 14) (z 1) (nI i)) (upd (g 15) (z 1) (nI j)) (upd (g 16) (z 1) w) (g 12) (g 13) (g 19) (g 20) (z 1 + 1) (z 0)).1)) 20 ((dtD u0 (upd (g 14) (z 1) (nI i)) (upd (g 15) (z 1) (nI j)) (upd (g 16) (z 1) w) (g 12) (g 13) (g 19) (g 20) (z 1 + 1) (z 0)).2.1)) (zs (zs z 1 (z 1 + 1)) 4 0)) hx hb hml hown hT hK hP hD hS hA (c_X6_keeps l D cA ad (gs (gs (gs (gs (gs g 14 (upd (g 14) (z 1) (nI i))) 15 (upd (g 15) (z 1) (nI j))) 16 (upd (g 16) (z 1) w)) 19 ((dtD u0 (upd (g 14) (z 1) (nI i)) (upd (g 15) (z 1) (nI j)) (upd (g 16) (z 1) w) (g 12) (g 13) (g 19) (g 20) (z 1 + 1) (z 0)).1)) 20 ((dtD u0 (upd (g 14) (z 1) (nI i)) (upd (g 15) (z 1) (nI j)) (upd (g 16) (z 1) w) (g 12) (g 13) (g 19) (g 20) (z 1 + 1) (z 0)).2.1)) (zs (zs z 1 (z 1 + 1)) 4 0) (show (z 0) ≤ 16 by omega)) k_X6_keeps kl_X6_122 (q0 := 0) rfl rfl rfl ((mdW_adr _ _ _ _).trans (mdW_adr _ _ _ _).symm) hl rfl rfl (Nat.le_of_ble_eq_true rfl) ⟨⟨rfl, rfl⟩, Nat.le_of_ble_eq_true rfl, Nat.le_of_ble_eq_true rfl⟩ ⟨Nat.zero_le _, Nat.zero_le _⟩ dX6_ahead_138 (fun H locs hP hD hS => ?_)
                refine lv_iload hx hb dX6_ahead_141 (lv_at hl 0 rfl) ?_
                exact q_iret hx hb hr hlk (by rfl) (va_cast' hP (by rfl)) hS dX6_ahead_143
              · have c_111 := q_b0e c_111
                exact absurd (c_111.symm.trans hd9) (by decide)
            · have c_62 := nI_le0 (a := 0) (b := 0) (by omega) (by omega) c_62
              exfalso; omega
          · have c_47 := nI_eq1 (a := z 1) (b := 40) (by omega) (by omega) c_47
            exfalso; omega
        · have c_34 := q_b0e c_34
          exact absurd c_34 (by rw [iN_t hw9]; decide)
    · have c_14 := q_b0e c_14
      exact absurd c_14 (mB_F (q_r_nI (by omega)) (by omega))
abbrev rm_X6_aheadx6 : Room := { frames := 2, cells := 0, slots := 0, locals := 43 }
set_option maxRecDepth 100000 in
set_option maxHeartbeats 4000000 in
theorem c_X6_aheadx6 (l : Launch) (D : va_G) (cA : ClassId) (ad : Nat → Nat) (g : Nat → Nat → Int32) (z : Nat → Nat) (i : Nat) (j : Nat) (w : Int32) (u0 : Nat) (hi : i < (z 0)) (hj : j < (z 0)) (hc : (z 0) ≤ 16) (hne : ¬ i = j) (hw9 : ¬ w < (-50) ∧ w ≤ nI 50) (hE : ∀ k, k < (z 1) → q_r ((g 14) k) 16 ∧ q_r ((g 15) k) 16) (ht : (z 1) < 40) (hst : dtH u0 (upd (g 14) (z 1) (nI i)) (upd (g 15) (z 1) (nI j)) (upd (g 16) (z 1) w) (g 12) (g 13) (g 19) (g 20) ((z 1) + 1) (z 0)) (hd9 : (dtD u0 (upd (g 14) (z 1) (nI i)) (upd (g 15) (z 1) (nI j)) (upd (g 16) (z 1) w) (g 12) (g 13) (g 19) (g 20) ((z 1) + 1) (z 0)).2.2.1 = false) : q_CI l yX6_ahead [Cond.code yX6_ahead cX6_ahead 5 (some .int)] rm_X6_aheadx6 D cA [.ref (ad 80), .int (nI i), .int (nI j), .int w] (mdW cA ad g z) (nI 0) (mdW cA ad (gs (gs (gs (gs (gs g 14 (upd (g 14) (z 1) (nI i))) 15 (upd (g 15) (z 1) (nI j))) 16 (upd (g 16) (z 1) w)) 19 ((dtD u0 (upd (g 14) (z 1) (nI i)) (upd (g 15) (z 1) (nI j)) (upd (g 16) (z 1) w) (g 12) (g 13) (g 19) (g 20) ((z 1) + 1) (z 0)).1)) 20 ((dtD u0 (upd (g 14) (z 1) (nI i)) (upd (g 15) (z 1) (nI j)) (upd (g 16) (z 1) w) (g 12) (g 13) (g 19) (g 20) ((z 1) + 1) (z 0)).2.1)) (zs (zs z 1 (z 1)) 4 3)) := by
  refine q_startI RX6 (by decide +kernel) rfl (Nat.le_of_ble_eq_true rfl) ?_
  intro p e s m below meth c A args H locs ls hx hb hr hml hown hT hlk hP hK hD hA hS hl
  have hl : lv_has ls 5 [(0, .ref (ad 80)), (1, .int (nI i)), (2, .int (nI j)), (3, .int w)] := hl
  refine lv_aload_n hx hb dX6_ahead_0 rfl (lv_at hl 0 rfl) ?_
  refine lv_aload_n hx hb dX6_ahead_1 rfl (lv_at hl 0 rfl) ?_
  refine lv_iload_n hx hb dX6_ahead_2 rfl (lv_at hl 1 rfl) ?_
  refine q_callIW (As := [.int (nI i)]) (r := q_b (mB (nI i) (z 0))) (w1 := mdW cA ad g z) hx hb hml hown hT hK hP hD hS hA (c_X6_isMention l D cA ad g z (nI i) (show (z 0) ≤ 16 by omega)) k_X6_isMention kl_X6_111 (q0 := 0) rfl rfl rfl ((mdW_adr _ _ _ _).trans (mdW_adr _ _ _ _).symm) hl rfl rfl (Nat.le_of_ble_eq_true rfl) ⟨⟨rfl, rfl⟩, Nat.le_of_ble_eq_true rfl, Nat.le_of_ble_eq_true rfl⟩ ⟨Nat.zero_le _, Nat.zero_le _⟩ dX6_ahead_3 (fun H locs hP hD hS => ?_)
  refine lv_if_eq (tgt := 17) hx hb dX6_ahead_6 (by decide) (fun c_6 => ?_) (fun c_6 => ?_)
  · have c_6 := q_b0e c_6
    exact absurd c_6 (mB_F (q_r_nI (by omega)) (by omega))
  · have c_6 := q_b0n c_6
    refine lv_aload_n hx hb dX6_ahead_9 rfl (lv_at hl 0 rfl) ?_
    refine lv_iload_n hx hb dX6_ahead_10 rfl (lv_at hl 2 rfl) ?_
    refine q_callIW (As := [.int (nI j)]) (r := q_b (mB (nI j) (z 0))) (w1 := mdW cA ad g z) hx hb hml hown hT hK hP hD hS hA (c_X6_isMention l D cA ad g z (nI j) (show (z 0) ≤ 16 by omega)) k_X6_isMention kl_X6_111 (q0 := 0) rfl rfl rfl ((mdW_adr _ _ _ _).trans (mdW_adr _ _ _ _).symm) hl rfl rfl (Nat.le_of_ble_eq_true rfl) ⟨⟨rfl, rfl⟩, Nat.le_of_ble_eq_true rfl, Nat.le_of_ble_eq_true rfl⟩ ⟨Nat.zero_le _, Nat.zero_le _⟩ dX6_ahead_11 (fun H locs hP hD hS => ?_)
    refine lv_if_ne (tgt := 21) hx hb dX6_ahead_14 (by decide) (fun c_14 => ?_) (fun c_14 => ?_)
    · have c_14 := q_b0n c_14
      refine lv_iload_n hx hb dX6_ahead_21 rfl (lv_at hl 1 rfl) ?_
      refine lv_iload_n hx hb dX6_ahead_22 rfl (lv_at hl 2 rfl) ?_
      refine lv_icmp_eq (tgt := 37) hx hb dX6_ahead_23 (by decide) (fun c_23 => ?_) (fun c_23 => ?_)
      · have c_23 := nI_eq1 (a := i) (b := j) (by omega) (by omega) c_23
        exfalso; omega
      · have c_23 := nI_eq0 (a := i) (b := j) (by omega) (by omega) c_23
        refine lv_iload_n hx hb dX6_ahead_26 rfl (lv_at hl 3 rfl) ?_
        refine lv_bipush (v := (-50)) hx hb dX6_ahead_27 (by decide +kernel) ?_
        refine lv_bipush (v := nI 50) hx hb dX6_ahead_29 (by decide +kernel) ?_
        refine q_callSI (As := [.int w, .int (-50), .int (nI 50)]) (r := q_b (iN w (-50) (nI 50))) hx hb hml hown hT hK hP hD hS hA (c_X6_isIn l D cA w (-50) (nI 50)) k_X6_isIn kl_X6_89 hl rfl rfl (Nat.le_of_ble_eq_true rfl) ⟨⟨rfl, rfl⟩, Nat.le_of_ble_eq_true rfl, Nat.le_of_ble_eq_true rfl⟩ ⟨Nat.zero_le _, Nat.zero_le _⟩ dX6_ahead_31 (fun H locs hP hD hS => ?_)
        refine lv_if_ne (tgt := 41) hx hb dX6_ahead_34 (by decide) (fun c_34 => ?_) (fun c_34 => ?_)
        · have c_34 := q_b0n c_34
          refine lv_aload_n hx hb dX6_ahead_41 rfl (lv_at hl 0 rfl) ?_
          refine q_get hx hb hT hown hK hP kw_X6 0 rfl rfl 17 (by decide) kf_X6_108 rfl (v := .int (nI (z 1))) rfl dX6_ahead_42 ?_
          refine lv_bipush (v := nI 40) hx hb dX6_ahead_45 (by decide +kernel) ?_
          refine lv_icmp_ne (tgt := 54) hx hb dX6_ahead_47 (by decide) (fun c_47 => ?_) (fun c_47 => ?_)
          · have c_47 := nI_eq0 (a := z 1) (b := 40) (by omega) (by omega) c_47
            refine lv_iconst (v := nI 0) hx hb dX6_ahead_54 (by decide +kernel) ?_
            refine q_put (ty := .int) (ws1 := mdW cA ad g (zs z 4 0)) hx hb hT hown hK hP hD hS kw_X6 tyX6_ok nmX6 0 rfl rfl 27 (by decide) kf_X6_82 rfl rfl (by decide +kernel) rfl rfl (Nat.le_of_ble_eq_true rfl) rfl dX6_ahead_55 (fun H locs hP hD hS => ?_)
            refine lv_aload_n hx hb dX6_ahead_58 rfl (lv_at hl 0 rfl) ?_
            refine q_get hx hb hT hown hK hP kw_X6 0 rfl rfl 27 (by decide) kf_X6_82 rfl (v := .int (nI 0)) rfl dX6_ahead_59 ?_
            refine lv_if_le (tgt := 67) hx hb dX6_ahead_62 (by decide) (fun c_62 => ?_) (fun c_62 => ?_)
            · have c_62 := nI_le1 (a := 0) (b := 0) (by omega) (by omega) c_62
              refine lv_aload_n hx hb dX6_ahead_67 rfl (lv_at hl 0 rfl) ?_
              refine q_get hx hb hT hown hK hP kw_X6 0 rfl rfl 18 (by decide) kf_X6_58 rfl (v := .ref (ad 14)) rfl dX6_ahead_68 ?_
              refine lv_aload_n hx hb dX6_ahead_71 rfl (lv_at hl 0 rfl) ?_
              refine q_get hx hb hT hown hK hP kw_X6 0 rfl rfl 17 (by decide) kf_X6_108 rfl (v := .int (nI (z 1))) rfl dX6_ahead_72 ?_
              refine lv_iload_n hx hb dX6_ahead_75 rfl (lv_at hl 1 rfl) ?_
              refine q_iast (f := g 14) (ws1 := mdW cA ad (gs g 14 (upd (g 14) (z 1) (nI i))) (zs z 4 0)) hx hb hK hP hD hS 17 0 rfl rfl (z 1) rfl (by omega) (by omega) rfl dX6_ahead_76 (fun H locs hP hD hS => ?_)
              refine lv_aload_n hx hb dX6_ahead_77 rfl (lv_at hl 0 rfl) ?_
              refine q_get hx hb hT hown hK hP kw_X6 0 rfl rfl 19 (by decide) kf_X6_61 rfl (v := .ref (ad 15)) rfl dX6_ahead_78 ?_
              refine lv_aload_n hx hb dX6_ahead_81 rfl (lv_at hl 0 rfl) ?_
              refine q_get hx hb hT hown hK hP kw_X6 0 rfl rfl 17 (by decide) kf_X6_108 rfl (v := .int (nI (z 1))) rfl dX6_ahead_82 ?_
              refine lv_iload_n hx hb dX6_ahead_85 rfl (lv_at hl 2 rfl) ?_
              refine q_iast (f := g 15) (ws1 := mdW cA ad (gs (gs g 14 (upd (g 14) (z 1) (nI i))) 15 (upd (g 15) (z 1) (nI j))) (zs z 4 0)) hx hb hK hP hD hS 18 0 rfl rfl (z 1) rfl (by omega) (by omega) rfl dX6_ahead_86 (fun H locs hP hD hS => ?_)
              refine lv_aload_n hx hb dX6_ahead_87 rfl (lv_at hl 0 rfl) ?_
              refine q_get hx hb hT hown hK hP kw_X6 0 rfl rfl 20 (by decide) kf_X6_64 rfl (v := .ref (ad 16)) rfl dX6_ahead_88 ?_
              refine lv_aload_n hx hb dX6_ahead_91 rfl (lv_at hl 0 rfl) ?_
              refine q_get hx hb hT hown hK hP kw_X6 0 rfl rfl 17 (by decide) kf_X6_108 rfl (v := .int (nI (z 1))) rfl dX6_ahead_92 ?_
              refine lv_iload_n hx hb dX6_ahead_95 rfl (lv_at hl 3 rfl) ?_
              refine q_iast (f := g 16) (ws1 := mdW cA ad (gs (gs (gs g 14 (upd (g 14) (z 1) (nI i))) 15 (upd (g 15) (z 1) (nI j))) 16 (upd (g 16) (z 1) w)) (zs z 4 0)) hx hb hK hP hD hS 19 0 rfl rfl (z 1) rfl (by omega) (by omega) rfl dX6_ahead_96 (fun H locs hP hD hS => ?_)
              refine lv_aload_n hx hb dX6_ahead_97 rfl (lv_at hl 0 rfl) ?_
              refine lv_dup hx hb dX6_ahead_98 rfl ?_
              refine q_get hx hb hT hown hK hP kw_X6 0 rfl rfl 17 (by decide) kf_X6_108 rfl (v := .int (nI (z 1))) rfl dX6_ahead_99 ?_
              refine lv_iconst (v := nI 1) hx hb dX6_ahead_102 (by decide +kernel) ?_
              refine lv_iadd hx hb dX6_ahead_103 ?_
              refine q_top (y := nI (z 1 + 1)) (nI_add _ _) ?_
              refine q_put (ty := .int) (ws1 := mdW cA ad (gs (gs (gs g 14 (upd (g 14) (z 1) (nI i))) 15 (upd (g 15) (z 1) (nI j))) 16 (upd (g 16) (z 1) w)) (zs (zs z 1 (z 1 + 1)) 4 0)) hx hb hT hown hK hP hD hS kw_X6 tyX6_ok nmX6 0 rfl rfl 17 (by decide) kf_X6_108 rfl rfl (by decide +kernel) rfl rfl (Nat.le_of_ble_eq_true rfl) rfl dX6_ahead_104 (fun H locs hP hD hS => ?_)
              refine lv_aload_n hx hb dX6_ahead_107 rfl (lv_at hl 0 rfl) ?_
              refine q_callIW (As := []) (r := q_b ((dtD u0 (upd (g 14) (z 1) (nI i)) (upd (g 15) (z 1) (nI j)) (upd (g 16) (z 1) w) (g 12) (g 13) (g 19) (g 20) (z 1 + 1) (z 0)).2.2.1)) (w1 := mdW cA ad (gs (gs (gs (gs (gs g 14 (upd (g 14) (z 1) (nI i))) 15 (upd (g 15) (z 1) (nI j))) 16 (upd (g 16) (z 1) w)) 19 ((dtD u0 (upd (g 14) (z 1) (nI i)) (upd (g 15) (z 1) (nI j)) (upd (g 16) (z 1) w) (g 12) (g 13) (g 19) (g 20) (z 1 + 1) (z 0)).1)) 20 ((dtD u0 (upd (g 14) (z 1) (nI i)) (upd (g 15) (z 1) (nI j)) (upd (g 16) (z 1) w) (g 12) (g 13) (g 19) (g 20) (z 1 + 1) (z 0)).2.1)) (zs (zs z 1 (z 1 + 1)) 4 0)) hx hb hml hown hT hK hP hD hS hA (c_X6_dates l D cA ad (gs (gs (gs g 14 (upd (g 14) (z 1) (nI i))) 15 (upd (g 15) (z 1) (nI j))) 16 (upd (g 16) (z 1) w)) (zs (zs z 1 (z 1 + 1)) 4 0) u0 (show (z 0) ≤ 16 by omega) (hE_add hE (i := i) (j := j) (by omega) (by omega)) (show (z 1 + 1) ≤ 40 by omega) hst) k_X6_dates kl_X6_114 (q0 := 0) rfl rfl rfl ((mdW_adr _ _ _ _).trans (mdW_adr _ _ _ _).symm) hl rfl rfl (Nat.le_of_ble_eq_true rfl) ⟨⟨rfl, rfl⟩, Nat.le_of_ble_eq_true rfl, Nat.le_of_ble_eq_true rfl⟩ ⟨Nat.zero_le _, Nat.zero_le _⟩ dX6_ahead_108 (fun H locs hP hD hS => ?_)
              refine lv_if_ne (tgt := 131) hx hb dX6_ahead_111 (by decide) (fun c_111 => ?_) (fun c_111 => ?_)
              · have c_111 := q_b0n c_111
                exact absurd (c_111.symm.trans hd9) (by decide)
              · have c_111 := q_b0e c_111
                refine lv_aload_n hx hb dX6_ahead_114 rfl (lv_at hl 0 rfl) ?_
                refine lv_dup hx hb dX6_ahead_115 rfl ?_
                refine q_get hx hb hT hown hK hP kw_X6 0 rfl rfl 17 (by decide) kf_X6_108 rfl (v := .int (nI (z 1 + 1))) rfl dX6_ahead_116 ?_
                refine lv_iconst (v := nI 1) hx hb dX6_ahead_119 (by decide +kernel) ?_
                refine lv_isub hx hb dX6_ahead_120 ?_
                refine q_top (y := nI (z 1)) (q_sub1 _) ?_
                refine q_put (ty := .int) (ws1 := mdW cA ad (gs (gs (gs (gs (gs g 14 (upd (g 14) (z 1) (nI i))) 15 (upd (g 15) (z 1) (nI j))) 16 (upd (g 16) (z 1) w)) 19 ((dtD u0 (upd (g 14) (z 1) (nI i)) (upd (g 15) (z 1) (nI j)) (upd (g 16) (z 1) w) (g 12) (g 13) (g 19) (g 20) (z 1 + 1) (z 0)).1)) 20 ((dtD u0 (upd (g 14) (z 1) (nI i)) (upd (g 15) (z 1) (nI j)) (upd (g 16) (z 1) w) (g 12) (g 13) (g 19) (g 20) (z 1 + 1) (z 0)).2.1)) (zs (zs z 1 (z 1)) 4 0)) hx hb hT hown hK hP hD hS kw_X6 tyX6_ok nmX6 0 rfl rfl 17 (by decide) kf_X6_108 rfl rfl (by decide +kernel) rfl rfl (Nat.le_of_ble_eq_true rfl) rfl dX6_ahead_121 (fun H locs hP hD hS => ?_)
                refine lv_aload_n hx hb dX6_ahead_124 rfl (lv_at hl 0 rfl) ?_
                refine lv_iconst (v := nI 3) hx hb dX6_ahead_125 (by decide +kernel) ?_
                refine q_put (ty := .int) (ws1 := mdW cA ad (gs (gs (gs (gs (gs g 14 (upd (g 14) (z 1) (nI i))) 15 (upd (g 15) (z 1) (nI j))) 16 (upd (g 16) (z 1) w)) 19 ((dtD u0 (upd (g 14) (z 1) (nI i)) (upd (g 15) (z 1) (nI j)) (upd (g 16) (z 1) w) (g 12) (g 13) (g 19) (g 20) (z 1 + 1) (z 0)).1)) 20 ((dtD u0 (upd (g 14) (z 1) (nI i)) (upd (g 15) (z 1) (nI j)) (upd (g 16) (z 1) w) (g 12) (g 13) (g 19) (g 20) (z 1 + 1) (z 0)).2.1)) (zs (zs z 1 (z 1)) 4 3)) hx hb hT hown hK hP hD hS kw_X6 tyX6_ok nmX6 0 rfl rfl 27 (by decide) kf_X6_82 rfl rfl (by decide +kernel) rfl rfl (Nat.le_of_ble_eq_true rfl) rfl dX6_ahead_126 (fun H locs hP hD hS => ?_)
                refine lv_iconst (v := nI 0) hx hb dX6_ahead_129 (by decide +kernel) ?_
                exact q_iret hx hb hr hlk (by rfl) (va_cast' hP (by rfl)) hS dX6_ahead_130
            · have c_62 := nI_le0 (a := 0) (b := 0) (by omega) (by omega) c_62
              exfalso; omega
          · have c_47 := nI_eq1 (a := z 1) (b := 40) (by omega) (by omega) c_47
            exfalso; omega
        · have c_34 := q_b0e c_34
          exact absurd c_34 (by rw [iN_t hw9]; decide)
    · have c_14 := q_b0e c_14
      exact absurd c_14 (mB_F (q_r_nI (by omega)) (by omega))
abbrev rm_X6_aheadx : Room := { frames := 2, cells := 0, slots := 0, locals := 43 }
set_option maxRecDepth 100000 in
set_option maxHeartbeats 4000000 in
theorem c_X6_aheadx (l : Launch) (D : va_G) (cA : ClassId) (ad : Nat → Nat) (g : Nat → Nat → Int32) (z : Nat → Nat) (x : Int32) (y : Int32) (w : Int32) (hc : (z 0) ≤ 16) (h12 : ¬ (q_r x (z 0) ∧ q_r y (z 0))) : q_CI l yX6_ahead [Cond.code yX6_ahead cX6_ahead 5 (some .int)] rm_X6_aheadx D cA [.ref (ad 80), .int x, .int y, .int w] (mdW cA ad g z) (nI 0) (mdW cA ad g (zs z 4 1)) := by
  refine q_startI RX6 (by decide +kernel) rfl (Nat.le_of_ble_eq_true rfl) ?_
  intro p e s m below meth c A args H locs ls hx hb hr hml hown hT hlk hP hK hD hA hS hl
  have hl : lv_has ls 5 [(0, .ref (ad 80)), (1, .int x), (2, .int y), (3, .int w)] := hl
  refine lv_aload_n hx hb dX6_ahead_0 rfl (lv_at hl 0 rfl) ?_
  refine lv_aload_n hx hb dX6_ahead_1 rfl (lv_at hl 0 rfl) ?_
  refine lv_iload_n hx hb dX6_ahead_2 rfl (lv_at hl 1 rfl) ?_
  refine q_callIW (As := [.int x]) (r := q_b (mB x (z 0))) (w1 := mdW cA ad g z) hx hb hml hown hT hK hP hD hS hA (c_X6_isMention l D cA ad g z x (show (z 0) ≤ 16 by omega)) k_X6_isMention kl_X6_111 (q0 := 0) rfl rfl rfl ((mdW_adr _ _ _ _).trans (mdW_adr _ _ _ _).symm) hl rfl rfl (Nat.le_of_ble_eq_true rfl) ⟨⟨rfl, rfl⟩, Nat.le_of_ble_eq_true rfl, Nat.le_of_ble_eq_true rfl⟩ ⟨Nat.zero_le _, Nat.zero_le _⟩ dX6_ahead_3 (fun H locs hP hD hS => ?_)
  refine lv_if_eq (tgt := 17) hx hb dX6_ahead_6 (by decide) (fun c_6 => ?_) (fun c_6 => ?_)
  · have c_6 := q_b0e c_6
    refine lv_iconst (v := nI 1) hx hb dX6_ahead_17 (by decide +kernel) ?_
    refine lv_goto (tgt := 55) hx hb dX6_ahead_18 (by decide) ?_
    refine q_put (ty := .int) (ws1 := mdW cA ad g (zs z 4 1)) hx hb hT hown hK hP hD hS kw_X6 tyX6_ok nmX6 0 rfl rfl 27 (by decide) kf_X6_82 rfl rfl (by decide +kernel) rfl rfl (Nat.le_of_ble_eq_true rfl) rfl dX6_ahead_55 (fun H locs hP hD hS => ?_)
    refine lv_aload_n hx hb dX6_ahead_58 rfl (lv_at hl 0 rfl) ?_
    refine q_get hx hb hT hown hK hP kw_X6 0 rfl rfl 27 (by decide) kf_X6_82 rfl (v := .int (nI 1)) rfl dX6_ahead_59 ?_
    refine lv_if_le (tgt := 67) hx hb dX6_ahead_62 (by decide) (fun c_62 => ?_) (fun c_62 => ?_)
    · have c_62 := nI_le1 (a := 1) (b := 0) (by omega) (by omega) c_62
      exfalso; omega
    · have c_62 := nI_le0 (a := 1) (b := 0) (by omega) (by omega) c_62
      refine lv_iconst (v := nI 0) hx hb dX6_ahead_65 (by decide +kernel) ?_
      exact q_iret hx hb hr hlk (by rfl) hP hS dX6_ahead_66
  · have c_6 := q_b0n c_6
    refine lv_aload_n hx hb dX6_ahead_9 rfl (lv_at hl 0 rfl) ?_
    refine lv_iload_n hx hb dX6_ahead_10 rfl (lv_at hl 2 rfl) ?_
    refine q_callIW (As := [.int y]) (r := q_b (mB y (z 0))) (w1 := mdW cA ad g z) hx hb hml hown hT hK hP hD hS hA (c_X6_isMention l D cA ad g z y (show (z 0) ≤ 16 by omega)) k_X6_isMention kl_X6_111 (q0 := 0) rfl rfl rfl ((mdW_adr _ _ _ _).trans (mdW_adr _ _ _ _).symm) hl rfl rfl (Nat.le_of_ble_eq_true rfl) ⟨⟨rfl, rfl⟩, Nat.le_of_ble_eq_true rfl, Nat.le_of_ble_eq_true rfl⟩ ⟨Nat.zero_le _, Nat.zero_le _⟩ dX6_ahead_11 (fun H locs hP hD hS => ?_)
    refine lv_if_ne (tgt := 21) hx hb dX6_ahead_14 (by decide) (fun c_14 => ?_) (fun c_14 => ?_)
    · have c_14 := q_b0n c_14
      exact absurd ⟨mB_t c_6 (by omega), mB_t c_14 (by omega)⟩ h12
    · have c_14 := q_b0e c_14
      refine lv_iconst (v := nI 1) hx hb dX6_ahead_17 (by decide +kernel) ?_
      refine lv_goto (tgt := 55) hx hb dX6_ahead_18 (by decide) ?_
      refine q_put (ty := .int) (ws1 := mdW cA ad g (zs z 4 1)) hx hb hT hown hK hP hD hS kw_X6 tyX6_ok nmX6 0 rfl rfl 27 (by decide) kf_X6_82 rfl rfl (by decide +kernel) rfl rfl (Nat.le_of_ble_eq_true rfl) rfl dX6_ahead_55 (fun H locs hP hD hS => ?_)
      refine lv_aload_n hx hb dX6_ahead_58 rfl (lv_at hl 0 rfl) ?_
      refine q_get hx hb hT hown hK hP kw_X6 0 rfl rfl 27 (by decide) kf_X6_82 rfl (v := .int (nI 1)) rfl dX6_ahead_59 ?_
      refine lv_if_le (tgt := 67) hx hb dX6_ahead_62 (by decide) (fun c_62 => ?_) (fun c_62 => ?_)
      · have c_62 := nI_le1 (a := 1) (b := 0) (by omega) (by omega) c_62
        exfalso; omega
      · have c_62 := nI_le0 (a := 1) (b := 0) (by omega) (by omega) c_62
        refine lv_iconst (v := nI 0) hx hb dX6_ahead_65 (by decide +kernel) ?_
        exact q_iret hx hb hr hlk (by rfl) hP hS dX6_ahead_66
abbrev rm_X6_aheadx3 : Room := { frames := 2, cells := 0, slots := 0, locals := 43 }
set_option maxRecDepth 100000 in
set_option maxHeartbeats 4000000 in
theorem c_X6_aheadx3 (l : Launch) (D : va_G) (cA : ClassId) (ad : Nat → Nat) (g : Nat → Nat → Int32) (z : Nat → Nat) (x : Int32) (y : Int32) (w : Int32) (hc : (z 0) ≤ 16) (h1 : q_r x (z 0)) (h2 : q_r y (z 0)) (hnw : x = y ∨ ¬ (¬ w < (-50) ∧ w ≤ nI 50)) : q_CI l yX6_ahead [Cond.code yX6_ahead cX6_ahead 5 (some .int)] rm_X6_aheadx3 D cA [.ref (ad 80), .int x, .int y, .int w] (mdW cA ad g z) (nI 0) (mdW cA ad g (zs z 4 2)) := by
  refine q_startI RX6 (by decide +kernel) rfl (Nat.le_of_ble_eq_true rfl) ?_
  intro p e s m below meth c A args H locs ls hx hb hr hml hown hT hlk hP hK hD hA hS hl
  have hl : lv_has ls 5 [(0, .ref (ad 80)), (1, .int x), (2, .int y), (3, .int w)] := hl
  refine lv_aload_n hx hb dX6_ahead_0 rfl (lv_at hl 0 rfl) ?_
  refine lv_aload_n hx hb dX6_ahead_1 rfl (lv_at hl 0 rfl) ?_
  refine lv_iload_n hx hb dX6_ahead_2 rfl (lv_at hl 1 rfl) ?_
  refine q_callIW (As := [.int x]) (r := q_b (mB x (z 0))) (w1 := mdW cA ad g z) hx hb hml hown hT hK hP hD hS hA (c_X6_isMention l D cA ad g z x (show (z 0) ≤ 16 by omega)) k_X6_isMention kl_X6_111 (q0 := 0) rfl rfl rfl ((mdW_adr _ _ _ _).trans (mdW_adr _ _ _ _).symm) hl rfl rfl (Nat.le_of_ble_eq_true rfl) ⟨⟨rfl, rfl⟩, Nat.le_of_ble_eq_true rfl, Nat.le_of_ble_eq_true rfl⟩ ⟨Nat.zero_le _, Nat.zero_le _⟩ dX6_ahead_3 (fun H locs hP hD hS => ?_)
  refine lv_if_eq (tgt := 17) hx hb dX6_ahead_6 (by decide) (fun c_6 => ?_) (fun c_6 => ?_)
  · have c_6 := q_b0e c_6
    exact absurd c_6 (mB_F h1 (by omega))
  · have c_6 := q_b0n c_6
    refine lv_aload_n hx hb dX6_ahead_9 rfl (lv_at hl 0 rfl) ?_
    refine lv_iload_n hx hb dX6_ahead_10 rfl (lv_at hl 2 rfl) ?_
    refine q_callIW (As := [.int y]) (r := q_b (mB y (z 0))) (w1 := mdW cA ad g z) hx hb hml hown hT hK hP hD hS hA (c_X6_isMention l D cA ad g z y (show (z 0) ≤ 16 by omega)) k_X6_isMention kl_X6_111 (q0 := 0) rfl rfl rfl ((mdW_adr _ _ _ _).trans (mdW_adr _ _ _ _).symm) hl rfl rfl (Nat.le_of_ble_eq_true rfl) ⟨⟨rfl, rfl⟩, Nat.le_of_ble_eq_true rfl, Nat.le_of_ble_eq_true rfl⟩ ⟨Nat.zero_le _, Nat.zero_le _⟩ dX6_ahead_11 (fun H locs hP hD hS => ?_)
    refine lv_if_ne (tgt := 21) hx hb dX6_ahead_14 (by decide) (fun c_14 => ?_) (fun c_14 => ?_)
    · have c_14 := q_b0n c_14
      refine lv_iload_n hx hb dX6_ahead_21 rfl (lv_at hl 1 rfl) ?_
      refine lv_iload_n hx hb dX6_ahead_22 rfl (lv_at hl 2 rfl) ?_
      refine lv_icmp_eq (tgt := 37) hx hb dX6_ahead_23 (by decide) (fun c_23 => ?_) (fun c_23 => ?_)
      · refine lv_iconst (v := nI 2) hx hb dX6_ahead_37 (by decide +kernel) ?_
        refine lv_goto (tgt := 55) hx hb dX6_ahead_38 (by decide) ?_
        refine q_put (ty := .int) (ws1 := mdW cA ad g (zs z 4 2)) hx hb hT hown hK hP hD hS kw_X6 tyX6_ok nmX6 0 rfl rfl 27 (by decide) kf_X6_82 rfl rfl (by decide +kernel) rfl rfl (Nat.le_of_ble_eq_true rfl) rfl dX6_ahead_55 (fun H locs hP hD hS => ?_)
        refine lv_aload_n hx hb dX6_ahead_58 rfl (lv_at hl 0 rfl) ?_
        refine q_get hx hb hT hown hK hP kw_X6 0 rfl rfl 27 (by decide) kf_X6_82 rfl (v := .int (nI 2)) rfl dX6_ahead_59 ?_
        refine lv_if_le (tgt := 67) hx hb dX6_ahead_62 (by decide) (fun c_62 => ?_) (fun c_62 => ?_)
        · have c_62 := nI_le1 (a := 2) (b := 0) (by omega) (by omega) c_62
          exfalso; omega
        · have c_62 := nI_le0 (a := 2) (b := 0) (by omega) (by omega) c_62
          refine lv_iconst (v := nI 0) hx hb dX6_ahead_65 (by decide +kernel) ?_
          exact q_iret hx hb hr hlk (by rfl) hP hS dX6_ahead_66
      · refine lv_iload_n hx hb dX6_ahead_26 rfl (lv_at hl 3 rfl) ?_
        refine lv_bipush (v := (-50)) hx hb dX6_ahead_27 (by decide +kernel) ?_
        refine lv_bipush (v := nI 50) hx hb dX6_ahead_29 (by decide +kernel) ?_
        refine q_callSI (As := [.int w, .int (-50), .int (nI 50)]) (r := q_b (iN w (-50) (nI 50))) hx hb hml hown hT hK hP hD hS hA (c_X6_isIn l D cA w (-50) (nI 50)) k_X6_isIn kl_X6_89 hl rfl rfl (Nat.le_of_ble_eq_true rfl) ⟨⟨rfl, rfl⟩, Nat.le_of_ble_eq_true rfl, Nat.le_of_ble_eq_true rfl⟩ ⟨Nat.zero_le _, Nat.zero_le _⟩ dX6_ahead_31 (fun H locs hP hD hS => ?_)
        refine lv_if_ne (tgt := 41) hx hb dX6_ahead_34 (by decide) (fun c_34 => ?_) (fun c_34 => ?_)
        · have c_34 := q_b0n c_34
          exact absurd (iN_e c_34) (hnw.resolve_left c_23)
        · have c_34 := q_b0e c_34
          refine lv_iconst (v := nI 2) hx hb dX6_ahead_37 (by decide +kernel) ?_
          refine lv_goto (tgt := 55) hx hb dX6_ahead_38 (by decide) ?_
          refine q_put (ty := .int) (ws1 := mdW cA ad g (zs z 4 2)) hx hb hT hown hK hP hD hS kw_X6 tyX6_ok nmX6 0 rfl rfl 27 (by decide) kf_X6_82 rfl rfl (by decide +kernel) rfl rfl (Nat.le_of_ble_eq_true rfl) rfl dX6_ahead_55 (fun H locs hP hD hS => ?_)
          refine lv_aload_n hx hb dX6_ahead_58 rfl (lv_at hl 0 rfl) ?_
          refine q_get hx hb hT hown hK hP kw_X6 0 rfl rfl 27 (by decide) kf_X6_82 rfl (v := .int (nI 2)) rfl dX6_ahead_59 ?_
          refine lv_if_le (tgt := 67) hx hb dX6_ahead_62 (by decide) (fun c_62 => ?_) (fun c_62 => ?_)
          · have c_62 := nI_le1 (a := 2) (b := 0) (by omega) (by omega) c_62
            exfalso; omega
          · have c_62 := nI_le0 (a := 2) (b := 0) (by omega) (by omega) c_62
            refine lv_iconst (v := nI 0) hx hb dX6_ahead_65 (by decide +kernel) ?_
            exact q_iret hx hb hr hlk (by rfl) hP hS dX6_ahead_66
    · have c_14 := q_b0e c_14
      exact absurd c_14 (mB_F h2 (by omega))
abbrev rm_X6_aheadx5 : Room := { frames := 2, cells := 0, slots := 0, locals := 43 }
set_option maxRecDepth 100000 in
set_option maxHeartbeats 4000000 in
theorem c_X6_aheadx5 (l : Launch) (D : va_G) (cA : ClassId) (ad : Nat → Nat) (g : Nat → Nat → Int32) (z : Nat → Nat) (i : Nat) (j : Nat) (w : Int32) (u0 : Nat) (hi : i < (z 0)) (hj : j < (z 0)) (hc : (z 0) ≤ 16) (hne : ¬ i = j) (hw9 : ¬ w < (-50) ∧ w ≤ nI 50) (ht : (z 1) = 40) : q_CI l yX6_ahead [Cond.code yX6_ahead cX6_ahead 5 (some .int)] rm_X6_aheadx5 D cA [.ref (ad 80), .int (nI i), .int (nI j), .int w] (mdW cA ad g z) (nI 0) (mdW cA ad g (zs z 4 3)) := by
  refine q_startI RX6 (by decide +kernel) rfl (Nat.le_of_ble_eq_true rfl) ?_
  intro p e s m below meth c A args H locs ls hx hb hr hml hown hT hlk hP hK hD hA hS hl
  have hl : lv_has ls 5 [(0, .ref (ad 80)), (1, .int (nI i)), (2, .int (nI j)), (3, .int w)] := hl
  refine lv_aload_n hx hb dX6_ahead_0 rfl (lv_at hl 0 rfl) ?_
  refine lv_aload_n hx hb dX6_ahead_1 rfl (lv_at hl 0 rfl) ?_
  refine lv_iload_n hx hb dX6_ahead_2 rfl (lv_at hl 1 rfl) ?_
  refine q_callIW (As := [.int (nI i)]) (r := q_b (mB (nI i) (z 0))) (w1 := mdW cA ad g z) hx hb hml hown hT hK hP hD hS hA (c_X6_isMention l D cA ad g z (nI i) (show (z 0) ≤ 16 by omega)) k_X6_isMention kl_X6_111 (q0 := 0) rfl rfl rfl ((mdW_adr _ _ _ _).trans (mdW_adr _ _ _ _).symm) hl rfl rfl (Nat.le_of_ble_eq_true rfl) ⟨⟨rfl, rfl⟩, Nat.le_of_ble_eq_true rfl, Nat.le_of_ble_eq_true rfl⟩ ⟨Nat.zero_le _, Nat.zero_le _⟩ dX6_ahead_3 (fun H locs hP hD hS => ?_)
  refine lv_if_eq (tgt := 17) hx hb dX6_ahead_6 (by decide) (fun c_6 => ?_) (fun c_6 => ?_)
  · have c_6 := q_b0e c_6
    exact absurd c_6 (mB_F (q_r_nI (by omega)) (by omega))
  · have c_6 := q_b0n c_6
    refine lv_aload_n hx hb dX6_ahead_9 rfl (lv_at hl 0 rfl) ?_
    refine lv_iload_n hx hb dX6_ahead_10 rfl (lv_at hl 2 rfl) ?_
    refine q_callIW (As := [.int (nI j)]) (r := q_b (mB (nI j) (z 0))) (w1 := mdW cA ad g z) hx hb hml hown hT hK hP hD hS hA (c_X6_isMention l D cA ad g z (nI j) (show (z 0) ≤ 16 by omega)) k_X6_isMention kl_X6_111 (q0 := 0) rfl rfl rfl ((mdW_adr _ _ _ _).trans (mdW_adr _ _ _ _).symm) hl rfl rfl (Nat.le_of_ble_eq_true rfl) ⟨⟨rfl, rfl⟩, Nat.le_of_ble_eq_true rfl, Nat.le_of_ble_eq_true rfl⟩ ⟨Nat.zero_le _, Nat.zero_le _⟩ dX6_ahead_11 (fun H locs hP hD hS => ?_)
    refine lv_if_ne (tgt := 21) hx hb dX6_ahead_14 (by decide) (fun c_14 => ?_) (fun c_14 => ?_)
    · have c_14 := q_b0n c_14
      refine lv_iload_n hx hb dX6_ahead_21 rfl (lv_at hl 1 rfl) ?_
      refine lv_iload_n hx hb dX6_ahead_22 rfl (lv_at hl 2 rfl) ?_
      refine lv_icmp_eq (tgt := 37) hx hb dX6_ahead_23 (by decide) (fun c_23 => ?_) (fun c_23 => ?_)
      · have c_23 := nI_eq1 (a := i) (b := j) (by omega) (by omega) c_23
        exfalso; omega
      · have c_23 := nI_eq0 (a := i) (b := j) (by omega) (by omega) c_23
        refine lv_iload_n hx hb dX6_ahead_26 rfl (lv_at hl 3 rfl) ?_
        refine lv_bipush (v := (-50)) hx hb dX6_ahead_27 (by decide +kernel) ?_
        refine lv_bipush (v := nI 50) hx hb dX6_ahead_29 (by decide +kernel) ?_
        refine q_callSI (As := [.int w, .int (-50), .int (nI 50)]) (r := q_b (iN w (-50) (nI 50))) hx hb hml hown hT hK hP hD hS hA (c_X6_isIn l D cA w (-50) (nI 50)) k_X6_isIn kl_X6_89 hl rfl rfl (Nat.le_of_ble_eq_true rfl) ⟨⟨rfl, rfl⟩, Nat.le_of_ble_eq_true rfl, Nat.le_of_ble_eq_true rfl⟩ ⟨Nat.zero_le _, Nat.zero_le _⟩ dX6_ahead_31 (fun H locs hP hD hS => ?_)
        refine lv_if_ne (tgt := 41) hx hb dX6_ahead_34 (by decide) (fun c_34 => ?_) (fun c_34 => ?_)
        · have c_34 := q_b0n c_34
          refine lv_aload_n hx hb dX6_ahead_41 rfl (lv_at hl 0 rfl) ?_
          refine q_get hx hb hT hown hK hP kw_X6 0 rfl rfl 17 (by decide) kf_X6_108 rfl (v := .int (nI (z 1))) rfl dX6_ahead_42 ?_
          refine lv_bipush (v := nI 40) hx hb dX6_ahead_45 (by decide +kernel) ?_
          refine lv_icmp_ne (tgt := 54) hx hb dX6_ahead_47 (by decide) (fun c_47 => ?_) (fun c_47 => ?_)
          · have c_47 := nI_eq0 (a := z 1) (b := 40) (by omega) (by omega) c_47
            exfalso; omega
          · have c_47 := nI_eq1 (a := z 1) (b := 40) (by omega) (by omega) c_47
            refine lv_iconst (v := nI 3) hx hb dX6_ahead_50 (by decide +kernel) ?_
            refine lv_goto (tgt := 55) hx hb dX6_ahead_51 (by decide) ?_
            refine q_put (ty := .int) (ws1 := mdW cA ad g (zs z 4 3)) hx hb hT hown hK hP hD hS kw_X6 tyX6_ok nmX6 0 rfl rfl 27 (by decide) kf_X6_82 rfl rfl (by decide +kernel) rfl rfl (Nat.le_of_ble_eq_true rfl) rfl dX6_ahead_55 (fun H locs hP hD hS => ?_)
            refine lv_aload_n hx hb dX6_ahead_58 rfl (lv_at hl 0 rfl) ?_
            refine q_get hx hb hT hown hK hP kw_X6 0 rfl rfl 27 (by decide) kf_X6_82 rfl (v := .int (nI 3)) rfl dX6_ahead_59 ?_
            refine lv_if_le (tgt := 67) hx hb dX6_ahead_62 (by decide) (fun c_62 => ?_) (fun c_62 => ?_)
            · have c_62 := nI_le1 (a := 3) (b := 0) (by omega) (by omega) c_62
              exfalso; omega
            · have c_62 := nI_le0 (a := 3) (b := 0) (by omega) (by omega) c_62
              refine lv_iconst (v := nI 0) hx hb dX6_ahead_65 (by decide +kernel) ?_
              exact q_iret hx hb hr hlk (by rfl) hP hS dX6_ahead_66
        · have c_34 := q_b0e c_34
          exact absurd c_34 (by rw [iN_t hw9]; decide)
    · have c_14 := q_b0e c_14
      exact absurd c_14 (mB_F (q_r_nI (by omega)) (by omega))
abbrev rm_X6_seal : Room := { frames := 3, cells := 0, slots := 0, locals := 65 }
set_option maxRecDepth 100000 in
set_option maxHeartbeats 4000000 in
theorem c_X6_seal (l : Launch) (D : va_G) (cA : ClassId) (ad : Nat → Nat) (g : Nat → Nat → Int32) (z : Nat → Nat) (i : Nat) (j : Nat) (hi : i < (z 0)) (hj : j < (z 0)) (hc : (z 0) ≤ 16) (hne : ¬ i = j) : q_CI l yX6_seal [Cond.code yX6_seal cX6_seal 4 (some .boolean)] rm_X6_seal D cA [.ref (ad 80), .int (nI i), .int (nI j)] (mdW cA ad g z) (q_b (hasB ((g 9) i) (nI j))) (mdW cA ad (gs g 9 (tellF true (g 9) i j)) (zs z 4 0)) := by
  refine q_startI RX6 (by decide +kernel) rfl (Nat.le_of_ble_eq_true rfl) ?_
  intro p e s m below meth c A args H locs ls hx hb hr hml hown hT hlk hP hK hD hA hS hl
  have hl : lv_has ls 4 [(0, .ref (ad 80)), (1, .int (nI i)), (2, .int (nI j))] := hl
  refine lv_aload_n hx hb dX6_seal_0 rfl (lv_at hl 0 rfl) ?_
  refine lv_iload_n hx hb dX6_seal_1 rfl (lv_at hl 1 rfl) ?_
  refine lv_iload_n hx hb dX6_seal_2 rfl (lv_at hl 2 rfl) ?_
  refine q_callIW (As := [.int (nI i), .int (nI j)]) (r := nI 1) (w1 := mdW cA ad g (zs z 4 0)) hx hb hml hown hT hK hP hD hS hA (c_X6_asksTwo l D cA ad g z i j (show i < (z 0) by omega) (show j < (z 0) by omega) (show (z 0) ≤ 16 by omega) (show ¬ i = j by omega)) k_X6_asksTwo kl_X6_136 (q0 := 0) rfl rfl rfl ((mdW_adr _ _ _ _).trans (mdW_adr _ _ _ _).symm) hl rfl rfl (Nat.le_of_ble_eq_true rfl) ⟨⟨rfl, rfl⟩, Nat.le_of_ble_eq_true rfl, Nat.le_of_ble_eq_true rfl⟩ ⟨Nat.zero_le _, Nat.zero_le _⟩ dX6_seal_3 (fun H locs hP hD hS => ?_)
  refine lv_if_ne (tgt := 11) hx hb dX6_seal_6 (by decide) (fun c_6 => ?_) (fun c_6 => ?_)
  · have c_6 := nI_eq0 (a := 1) (b := 0) (by omega) (by omega) c_6
    refine lv_aload_n hx hb dX6_seal_11 rfl (lv_at hl 0 rfl) ?_
    refine q_get hx hb hT hown hK hP kw_X6 0 rfl rfl 7 (by decide) kf_X6_28 rfl (v := .ref (ad 9)) rfl dX6_seal_12 ?_
    refine lv_iload_n hx hb dX6_seal_15 rfl (lv_at hl 1 rfl) ?_
    refine q_iald (f := g 9) hx hb hK hP 7 0 rfl rfl (i) rfl (by omega) (by omega) dX6_seal_16 ?_
    refine lv_iload_n hx hb dX6_seal_17 rfl (lv_at hl 2 rfl) ?_
    refine q_callSI (As := [.int (g 9 i), .int (nI j)]) (r := q_b (hasB (g 9 i) (nI j))) hx hb hml hown hT hK hP hD hS hA (c_X6_has l D cA (g 9 i) (nI j)) k_X6_has kl_X6_104 hl rfl rfl (Nat.le_of_ble_eq_true rfl) ⟨⟨rfl, rfl⟩, Nat.le_of_ble_eq_true rfl, Nat.le_of_ble_eq_true rfl⟩ ⟨Nat.zero_le _, Nat.zero_le _⟩ dX6_seal_18 (fun H locs hP hD hS => ?_)
    refine lv_istore_n (lv' := [(3, .int (q_b (hasB (g 9 i) (nI j)))), (0, .ref (ad 80)), (1, .int (nI i)), (2, .int (nI j))]) hx hb dX6_seal_21 rfl hl (by decide) rfl (fun ls hl => ?_)
    refine lv_aload_n hx hb dX6_seal_22 rfl (lv_at hl 1 rfl) ?_
    refine q_get hx hb hT hown hK hP kw_X6 0 rfl rfl 7 (by decide) kf_X6_28 rfl (v := .ref (ad 9)) rfl dX6_seal_23 ?_
    refine lv_iload_n hx hb dX6_seal_26 rfl (lv_at hl 2 rfl) ?_
    refine lv_dup2_11 hx hb dX6_seal_27 rfl rfl ?_
    refine q_iald (f := g 9) hx hb hK hP 7 0 rfl rfl (i) rfl (by omega) (by omega) dX6_seal_28 ?_
    refine lv_iconst (v := nI 1) hx hb dX6_seal_29 (by decide +kernel) ?_
    refine lv_iload_n hx hb dX6_seal_30 rfl (lv_at hl 3 rfl) ?_
    refine lv_ishl hx hb dX6_seal_31 ?_
    refine lv_ior hx hb dX6_seal_32 ?_
    refine q_iast (f := g 9) (ws1 := mdW cA ad (gs g 9 (upd (g 9) i ((g 9 i) ||| ((nI 1) <<< ((nI j) &&& 31))))) (zs z 4 0)) hx hb hK hP hD hS 7 0 rfl rfl (i) rfl (by omega) (by omega) rfl dX6_seal_33 (fun H locs hP hD hS => ?_)
    obtain ⟨nF33_9, enF33_9⟩ : ∃ y : Nat → Int32, y = upd (g 9) i ((g 9 i) ||| ((nI 1) <<< ((nI j) &&& 31))) := ⟨_, rfl⟩
    have hP : va_P D vwCl (mdW cA ad (gs g 9 nF33_9) (zs z 4 0)) H := by rw [enF33_9]; exact hP
    have hD : va_D A (mdW cA ad (gs g 9 nF33_9) (zs z 4 0)) := by rw [enF33_9]; exact hD
    refine lv_aload_n hx hb dX6_seal_34 rfl (lv_at hl 1 rfl) ?_
    refine q_get hx hb hT hown hK hP kw_X6 0 rfl rfl 7 (by decide) kf_X6_28 rfl (v := .ref (ad 9)) rfl dX6_seal_35 ?_
    refine lv_iload_n hx hb dX6_seal_38 rfl (lv_at hl 3 rfl) ?_
    refine lv_dup2_11 hx hb dX6_seal_39 rfl rfl ?_
    refine q_iald (f := nF33_9) hx hb hK hP 7 0 rfl rfl (j) rfl (by omega) (by omega) dX6_seal_40 ?_
    refine lv_iconst (v := nI 1) hx hb dX6_seal_41 (by decide +kernel) ?_
    refine lv_iload_n hx hb dX6_seal_42 rfl (lv_at hl 2 rfl) ?_
    refine lv_ishl hx hb dX6_seal_43 ?_
    refine lv_ior hx hb dX6_seal_44 ?_
    refine q_iast (f := nF33_9) (ws1 := mdW cA ad (gs g 9 (upd nF33_9 j ((nF33_9 j) ||| ((nI 1) <<< ((nI i) &&& 31))))) (zs z 4 0)) hx hb hK hP hD hS 7 0 rfl rfl (j) rfl (by omega) (by omega) rfl dX6_seal_45 (fun H locs hP hD hS => ?_)
    obtain ⟨nF45_9, enF45_9⟩ : ∃ y : Nat → Int32, y = upd nF33_9 j ((nF33_9 j) ||| ((nI 1) <<< ((nI i) &&& 31))) := ⟨_, rfl⟩
    have hP : va_P D vwCl (mdW cA ad (gs g 9 nF45_9) (zs z 4 0)) H := by rw [enF45_9]; exact hP
    have hD : va_D A (mdW cA ad (gs g 9 nF45_9) (zs z 4 0)) := by rw [enF45_9]; exact hD
    refine lv_iload_n hx hb dX6_seal_46 rfl (lv_at hl 0 rfl) ?_
    rw [enF45_9] at hP hD
    rw [enF33_9] at hP hD
    exact q_zret hx hb hr hlk (q_b_or _) (by rfl) (va_cast' hP (by rfl)) hS dX6_seal_47
  · have c_6 := nI_eq1 (a := 1) (b := 0) (by omega) (by omega) c_6
    exfalso; omega
abbrev rm_X6_sealx : Room := { frames := 3, cells := 0, slots := 0, locals := 65 }
set_option maxRecDepth 100000 in
set_option maxHeartbeats 4000000 in
theorem c_X6_sealx (l : Launch) (D : va_G) (cA : ClassId) (ad : Nat → Nat) (g : Nat → Nat → Int32) (z : Nat → Nat) (x : Int32) (y : Int32) (hc : (z 0) ≤ 16) (h12 : ¬ (q_r x (z 0) ∧ q_r y (z 0))) : q_CI l yX6_seal [Cond.code yX6_seal cX6_seal 4 (some .boolean)] rm_X6_sealx D cA [.ref (ad 80), .int x, .int y] (mdW cA ad g z) (nI 0) (mdW cA ad g (zs z 4 1)) := by
  refine q_startI RX6 (by decide +kernel) rfl (Nat.le_of_ble_eq_true rfl) ?_
  intro p e s m below meth c A args H locs ls hx hb hr hml hown hT hlk hP hK hD hA hS hl
  have hl : lv_has ls 4 [(0, .ref (ad 80)), (1, .int x), (2, .int y)] := hl
  refine lv_aload_n hx hb dX6_seal_0 rfl (lv_at hl 0 rfl) ?_
  refine lv_iload_n hx hb dX6_seal_1 rfl (lv_at hl 1 rfl) ?_
  refine lv_iload_n hx hb dX6_seal_2 rfl (lv_at hl 2 rfl) ?_
  refine q_callIW (As := [.int x, .int y]) (r := nI 0) (w1 := mdW cA ad g (zs z 4 1)) hx hb hml hown hT hK hP hD hS hA (c_X6_asksTwox l D cA ad g z x y (show (z 0) ≤ 16 by omega) h12) k_X6_asksTwo kl_X6_136 (q0 := 0) rfl rfl rfl ((mdW_adr _ _ _ _).trans (mdW_adr _ _ _ _).symm) hl rfl rfl (Nat.le_of_ble_eq_true rfl) ⟨⟨rfl, rfl⟩, Nat.le_of_ble_eq_true rfl, Nat.le_of_ble_eq_true rfl⟩ ⟨Nat.zero_le _, Nat.zero_le _⟩ dX6_seal_3 (fun H locs hP hD hS => ?_)
  refine lv_if_ne (tgt := 11) hx hb dX6_seal_6 (by decide) (fun c_6 => ?_) (fun c_6 => ?_)
  · have c_6 := nI_eq0 (a := 0) (b := 0) (by omega) (by omega) c_6
    exfalso; omega
  · have c_6 := nI_eq1 (a := 0) (b := 0) (by omega) (by omega) c_6
    refine lv_iconst (v := nI 0) hx hb dX6_seal_9 (by decide +kernel) ?_
    exact q_zret hx hb hr hlk (Or.inl rfl) (by rfl) hP hS dX6_seal_10
abbrev rm_X6_sealx3 : Room := { frames := 3, cells := 0, slots := 0, locals := 65 }
set_option maxRecDepth 100000 in
set_option maxHeartbeats 4000000 in
theorem c_X6_sealx3 (l : Launch) (D : va_G) (cA : ClassId) (ad : Nat → Nat) (g : Nat → Nat → Int32) (z : Nat → Nat) (x : Int32) (y : Int32) (hc : (z 0) ≤ 16) (h1 : q_r x (z 0)) (h2 : q_r y (z 0)) (hne : x = y) : q_CI l yX6_seal [Cond.code yX6_seal cX6_seal 4 (some .boolean)] rm_X6_sealx3 D cA [.ref (ad 80), .int x, .int y] (mdW cA ad g z) (nI 0) (mdW cA ad g (zs z 4 2)) := by
  refine q_startI RX6 (by decide +kernel) rfl (Nat.le_of_ble_eq_true rfl) ?_
  intro p e s m below meth c A args H locs ls hx hb hr hml hown hT hlk hP hK hD hA hS hl
  have hl : lv_has ls 4 [(0, .ref (ad 80)), (1, .int x), (2, .int y)] := hl
  refine lv_aload_n hx hb dX6_seal_0 rfl (lv_at hl 0 rfl) ?_
  refine lv_iload_n hx hb dX6_seal_1 rfl (lv_at hl 1 rfl) ?_
  refine lv_iload_n hx hb dX6_seal_2 rfl (lv_at hl 2 rfl) ?_
  refine q_callIW (As := [.int x, .int y]) (r := nI 0) (w1 := mdW cA ad g (zs z 4 2)) hx hb hml hown hT hK hP hD hS hA (c_X6_asksTwox3 l D cA ad g z x y (show (z 0) ≤ 16 by omega) h1 h2 hne) k_X6_asksTwo kl_X6_136 (q0 := 0) rfl rfl rfl ((mdW_adr _ _ _ _).trans (mdW_adr _ _ _ _).symm) hl rfl rfl (Nat.le_of_ble_eq_true rfl) ⟨⟨rfl, rfl⟩, Nat.le_of_ble_eq_true rfl, Nat.le_of_ble_eq_true rfl⟩ ⟨Nat.zero_le _, Nat.zero_le _⟩ dX6_seal_3 (fun H locs hP hD hS => ?_)
  refine lv_if_ne (tgt := 11) hx hb dX6_seal_6 (by decide) (fun c_6 => ?_) (fun c_6 => ?_)
  · have c_6 := nI_eq0 (a := 0) (b := 0) (by omega) (by omega) c_6
    exfalso; omega
  · have c_6 := nI_eq1 (a := 0) (b := 0) (by omega) (by omega) c_6
    refine lv_iconst (v := nI 0) hx hb dX6_seal_9 (by decide +kernel) ?_
    exact q_zret hx hb hr hlk (Or.inl rfl) (by rfl) hP hS dX6_seal_10
abbrev rm_X6_kin : Room := { frames := 3, cells := 0, slots := 0, locals := 65 }
set_option maxRecDepth 100000 in
set_option maxHeartbeats 4000000 in
theorem c_X6_kin (l : Launch) (D : va_G) (cA : ClassId) (ad : Nat → Nat) (g : Nat → Nat → Int32) (z : Nat → Nat) (i : Nat) (j : Nat) (hi : i < (z 0)) (hj : j < (z 0)) (hc : (z 0) ≤ 16) (hne : ¬ i = j) : q_CI l yX6_kin [Cond.code yX6_kin cX6_kin 4 (some .boolean)] rm_X6_kin D cA [.ref (ad 80), .int (nI i), .int (nI j)] (mdW cA ad g z) (q_b (hasB ((g 11) i) (nI j))) (mdW cA ad (gs g 11 (tellF true (g 11) i j)) (zs z 4 0)) := by
  refine q_startI RX6 (by decide +kernel) rfl (Nat.le_of_ble_eq_true rfl) ?_
  intro p e s m below meth c A args H locs ls hx hb hr hml hown hT hlk hP hK hD hA hS hl
  have hl : lv_has ls 4 [(0, .ref (ad 80)), (1, .int (nI i)), (2, .int (nI j))] := hl
  refine lv_aload_n hx hb dX6_kin_0 rfl (lv_at hl 0 rfl) ?_
  refine lv_iload_n hx hb dX6_kin_1 rfl (lv_at hl 1 rfl) ?_
  refine lv_iload_n hx hb dX6_kin_2 rfl (lv_at hl 2 rfl) ?_
  refine q_callIW (As := [.int (nI i), .int (nI j)]) (r := nI 1) (w1 := mdW cA ad g (zs z 4 0)) hx hb hml hown hT hK hP hD hS hA (c_X6_asksTwo l D cA ad g z i j (show i < (z 0) by omega) (show j < (z 0) by omega) (show (z 0) ≤ 16 by omega) (show ¬ i = j by omega)) k_X6_asksTwo kl_X6_136 (q0 := 0) rfl rfl rfl ((mdW_adr _ _ _ _).trans (mdW_adr _ _ _ _).symm) hl rfl rfl (Nat.le_of_ble_eq_true rfl) ⟨⟨rfl, rfl⟩, Nat.le_of_ble_eq_true rfl, Nat.le_of_ble_eq_true rfl⟩ ⟨Nat.zero_le _, Nat.zero_le _⟩ dX6_kin_3 (fun H locs hP hD hS => ?_)
  refine lv_if_ne (tgt := 11) hx hb dX6_kin_6 (by decide) (fun c_6 => ?_) (fun c_6 => ?_)
  · have c_6 := nI_eq0 (a := 1) (b := 0) (by omega) (by omega) c_6
    refine lv_aload_n hx hb dX6_kin_11 rfl (lv_at hl 0 rfl) ?_
    refine q_get hx hb hT hown hK hP kw_X6 0 rfl rfl 9 (by decide) kf_X6_34 rfl (v := .ref (ad 11)) rfl dX6_kin_12 ?_
    refine lv_iload_n hx hb dX6_kin_15 rfl (lv_at hl 1 rfl) ?_
    refine q_iald (f := g 11) hx hb hK hP 9 0 rfl rfl (i) rfl (by omega) (by omega) dX6_kin_16 ?_
    refine lv_iload_n hx hb dX6_kin_17 rfl (lv_at hl 2 rfl) ?_
    refine q_callSI (As := [.int (g 11 i), .int (nI j)]) (r := q_b (hasB (g 11 i) (nI j))) hx hb hml hown hT hK hP hD hS hA (c_X6_has l D cA (g 11 i) (nI j)) k_X6_has kl_X6_104 hl rfl rfl (Nat.le_of_ble_eq_true rfl) ⟨⟨rfl, rfl⟩, Nat.le_of_ble_eq_true rfl, Nat.le_of_ble_eq_true rfl⟩ ⟨Nat.zero_le _, Nat.zero_le _⟩ dX6_kin_18 (fun H locs hP hD hS => ?_)
    refine lv_istore_n (lv' := [(3, .int (q_b (hasB (g 11 i) (nI j)))), (0, .ref (ad 80)), (1, .int (nI i)), (2, .int (nI j))]) hx hb dX6_kin_21 rfl hl (by decide) rfl (fun ls hl => ?_)
    refine lv_aload_n hx hb dX6_kin_22 rfl (lv_at hl 1 rfl) ?_
    refine q_get hx hb hT hown hK hP kw_X6 0 rfl rfl 9 (by decide) kf_X6_34 rfl (v := .ref (ad 11)) rfl dX6_kin_23 ?_
    refine lv_iload_n hx hb dX6_kin_26 rfl (lv_at hl 2 rfl) ?_
    refine lv_dup2_11 hx hb dX6_kin_27 rfl rfl ?_
    refine q_iald (f := g 11) hx hb hK hP 9 0 rfl rfl (i) rfl (by omega) (by omega) dX6_kin_28 ?_
    refine lv_iconst (v := nI 1) hx hb dX6_kin_29 (by decide +kernel) ?_
    refine lv_iload_n hx hb dX6_kin_30 rfl (lv_at hl 3 rfl) ?_
    refine lv_ishl hx hb dX6_kin_31 ?_
    refine lv_ior hx hb dX6_kin_32 ?_
    refine q_iast (f := g 11) (ws1 := mdW cA ad (gs g 11 (upd (g 11) i ((g 11 i) ||| ((nI 1) <<< ((nI j) &&& 31))))) (zs z 4 0)) hx hb hK hP hD hS 9 0 rfl rfl (i) rfl (by omega) (by omega) rfl dX6_kin_33 (fun H locs hP hD hS => ?_)
    obtain ⟨nF33_11, enF33_11⟩ : ∃ y : Nat → Int32, y = upd (g 11) i ((g 11 i) ||| ((nI 1) <<< ((nI j) &&& 31))) := ⟨_, rfl⟩
    have hP : va_P D vwCl (mdW cA ad (gs g 11 nF33_11) (zs z 4 0)) H := by rw [enF33_11]; exact hP
    have hD : va_D A (mdW cA ad (gs g 11 nF33_11) (zs z 4 0)) := by rw [enF33_11]; exact hD
    refine lv_aload_n hx hb dX6_kin_34 rfl (lv_at hl 1 rfl) ?_
    refine q_get hx hb hT hown hK hP kw_X6 0 rfl rfl 9 (by decide) kf_X6_34 rfl (v := .ref (ad 11)) rfl dX6_kin_35 ?_
    refine lv_iload_n hx hb dX6_kin_38 rfl (lv_at hl 3 rfl) ?_
    refine lv_dup2_11 hx hb dX6_kin_39 rfl rfl ?_
    refine q_iald (f := nF33_11) hx hb hK hP 9 0 rfl rfl (j) rfl (by omega) (by omega) dX6_kin_40 ?_
    refine lv_iconst (v := nI 1) hx hb dX6_kin_41 (by decide +kernel) ?_
    refine lv_iload_n hx hb dX6_kin_42 rfl (lv_at hl 2 rfl) ?_
    refine lv_ishl hx hb dX6_kin_43 ?_
    refine lv_ior hx hb dX6_kin_44 ?_
    refine q_iast (f := nF33_11) (ws1 := mdW cA ad (gs g 11 (upd nF33_11 j ((nF33_11 j) ||| ((nI 1) <<< ((nI i) &&& 31))))) (zs z 4 0)) hx hb hK hP hD hS 9 0 rfl rfl (j) rfl (by omega) (by omega) rfl dX6_kin_45 (fun H locs hP hD hS => ?_)
    obtain ⟨nF45_11, enF45_11⟩ : ∃ y : Nat → Int32, y = upd nF33_11 j ((nF33_11 j) ||| ((nI 1) <<< ((nI i) &&& 31))) := ⟨_, rfl⟩
    have hP : va_P D vwCl (mdW cA ad (gs g 11 nF45_11) (zs z 4 0)) H := by rw [enF45_11]; exact hP
    have hD : va_D A (mdW cA ad (gs g 11 nF45_11) (zs z 4 0)) := by rw [enF45_11]; exact hD
    refine lv_iload_n hx hb dX6_kin_46 rfl (lv_at hl 0 rfl) ?_
    rw [enF45_11] at hP hD
    rw [enF33_11] at hP hD
    exact q_zret hx hb hr hlk (q_b_or _) (by rfl) (va_cast' hP (by rfl)) hS dX6_kin_47
  · have c_6 := nI_eq1 (a := 1) (b := 0) (by omega) (by omega) c_6
    exfalso; omega
abbrev rm_X6_kinx : Room := { frames := 3, cells := 0, slots := 0, locals := 65 }
set_option maxRecDepth 100000 in
set_option maxHeartbeats 4000000 in
theorem c_X6_kinx (l : Launch) (D : va_G) (cA : ClassId) (ad : Nat → Nat) (g : Nat → Nat → Int32) (z : Nat → Nat) (x : Int32) (y : Int32) (hc : (z 0) ≤ 16) (h12 : ¬ (q_r x (z 0) ∧ q_r y (z 0))) : q_CI l yX6_kin [Cond.code yX6_kin cX6_kin 4 (some .boolean)] rm_X6_kinx D cA [.ref (ad 80), .int x, .int y] (mdW cA ad g z) (nI 0) (mdW cA ad g (zs z 4 1)) := by
  refine q_startI RX6 (by decide +kernel) rfl (Nat.le_of_ble_eq_true rfl) ?_
  intro p e s m below meth c A args H locs ls hx hb hr hml hown hT hlk hP hK hD hA hS hl
  have hl : lv_has ls 4 [(0, .ref (ad 80)), (1, .int x), (2, .int y)] := hl
  refine lv_aload_n hx hb dX6_kin_0 rfl (lv_at hl 0 rfl) ?_
  refine lv_iload_n hx hb dX6_kin_1 rfl (lv_at hl 1 rfl) ?_
  refine lv_iload_n hx hb dX6_kin_2 rfl (lv_at hl 2 rfl) ?_
  refine q_callIW (As := [.int x, .int y]) (r := nI 0) (w1 := mdW cA ad g (zs z 4 1)) hx hb hml hown hT hK hP hD hS hA (c_X6_asksTwox l D cA ad g z x y (show (z 0) ≤ 16 by omega) h12) k_X6_asksTwo kl_X6_136 (q0 := 0) rfl rfl rfl ((mdW_adr _ _ _ _).trans (mdW_adr _ _ _ _).symm) hl rfl rfl (Nat.le_of_ble_eq_true rfl) ⟨⟨rfl, rfl⟩, Nat.le_of_ble_eq_true rfl, Nat.le_of_ble_eq_true rfl⟩ ⟨Nat.zero_le _, Nat.zero_le _⟩ dX6_kin_3 (fun H locs hP hD hS => ?_)
  refine lv_if_ne (tgt := 11) hx hb dX6_kin_6 (by decide) (fun c_6 => ?_) (fun c_6 => ?_)
  · have c_6 := nI_eq0 (a := 0) (b := 0) (by omega) (by omega) c_6
    exfalso; omega
  · have c_6 := nI_eq1 (a := 0) (b := 0) (by omega) (by omega) c_6
    refine lv_iconst (v := nI 0) hx hb dX6_kin_9 (by decide +kernel) ?_
    exact q_zret hx hb hr hlk (Or.inl rfl) (by rfl) hP hS dX6_kin_10
abbrev rm_X6_kinx3 : Room := { frames := 3, cells := 0, slots := 0, locals := 65 }
set_option maxRecDepth 100000 in
set_option maxHeartbeats 4000000 in
theorem c_X6_kinx3 (l : Launch) (D : va_G) (cA : ClassId) (ad : Nat → Nat) (g : Nat → Nat → Int32) (z : Nat → Nat) (x : Int32) (y : Int32) (hc : (z 0) ≤ 16) (h1 : q_r x (z 0)) (h2 : q_r y (z 0)) (hne : x = y) : q_CI l yX6_kin [Cond.code yX6_kin cX6_kin 4 (some .boolean)] rm_X6_kinx3 D cA [.ref (ad 80), .int x, .int y] (mdW cA ad g z) (nI 0) (mdW cA ad g (zs z 4 2)) := by
  refine q_startI RX6 (by decide +kernel) rfl (Nat.le_of_ble_eq_true rfl) ?_
  intro p e s m below meth c A args H locs ls hx hb hr hml hown hT hlk hP hK hD hA hS hl
  have hl : lv_has ls 4 [(0, .ref (ad 80)), (1, .int x), (2, .int y)] := hl
  refine lv_aload_n hx hb dX6_kin_0 rfl (lv_at hl 0 rfl) ?_
  refine lv_iload_n hx hb dX6_kin_1 rfl (lv_at hl 1 rfl) ?_
  refine lv_iload_n hx hb dX6_kin_2 rfl (lv_at hl 2 rfl) ?_
  refine q_callIW (As := [.int x, .int y]) (r := nI 0) (w1 := mdW cA ad g (zs z 4 2)) hx hb hml hown hT hK hP hD hS hA (c_X6_asksTwox3 l D cA ad g z x y (show (z 0) ≤ 16 by omega) h1 h2 hne) k_X6_asksTwo kl_X6_136 (q0 := 0) rfl rfl rfl ((mdW_adr _ _ _ _).trans (mdW_adr _ _ _ _).symm) hl rfl rfl (Nat.le_of_ble_eq_true rfl) ⟨⟨rfl, rfl⟩, Nat.le_of_ble_eq_true rfl, Nat.le_of_ble_eq_true rfl⟩ ⟨Nat.zero_le _, Nat.zero_le _⟩ dX6_kin_3 (fun H locs hP hD hS => ?_)
  refine lv_if_ne (tgt := 11) hx hb dX6_kin_6 (by decide) (fun c_6 => ?_) (fun c_6 => ?_)
  · have c_6 := nI_eq0 (a := 0) (b := 0) (by omega) (by omega) c_6
    exfalso; omega
  · have c_6 := nI_eq1 (a := 0) (b := 0) (by omega) (by omega) c_6
    refine lv_iconst (v := nI 0) hx hb dX6_kin_9 (by decide +kernel) ?_
    exact q_zret hx hb hr hlk (Or.inl rfl) (by rfl) hP hS dX6_kin_10
abbrev rm_X6_block : Room := { frames := 3, cells := 0, slots := 0, locals := 65 }
set_option maxRecDepth 100000 in
set_option maxHeartbeats 4000000 in
theorem c_X6_block (l : Launch) (D : va_G) (cA : ClassId) (ad : Nat → Nat) (g : Nat → Nat → Int32) (z : Nat → Nat) (i : Nat) (j : Nat) (is : Bool) (hi : i < (z 0)) (hj : j < (z 0)) (hc : (z 0) ≤ 16) (hne : ¬ i = j) : q_CI l yX6_block [Cond.code yX6_block cX6_block 5 (some .boolean)] rm_X6_block D cA [.ref (ad 80), .int (nI i), .int (nI j), .int (q_b is)] (mdW cA ad g z) (q_b (hasB ((g 10) i) (nI j))) (mdW cA ad (gs g 10 (tellF is (g 10) i j)) (zs z 4 0)) := by
  refine q_startI RX6 (by decide +kernel) rfl (Nat.le_of_ble_eq_true rfl) ?_
  intro p e s m below meth c A args H locs ls hx hb hr hml hown hT hlk hP hK hD hA hS hl
  have hl : lv_has ls 5 [(0, .ref (ad 80)), (1, .int (nI i)), (2, .int (nI j)), (3, .int (q_b is))] := hl
  have zqJ92 : ∀ (H : Heap) (locs : List Loc) (ls : Array Slot), va_P D vwCl (mdW cA ad (gs g 10 (upd (g 10) i (bitS is ((g 10) i) (nI j)))) (zs z 4 0)) H → va_D A (mdW cA ad (gs g 10 (upd (g 10) i (bitS is ((g 10) i) (nI j)))) (zs z 4 0)) → va_S A s.heap H locs → lv_has ls 5 [(0, .ref (ad 80)), (1, .int (nI i)), (2, .int (nI j)), (3, .int (q_b is)), (4, .int (q_b (hasB ((g 10) i) (nI j))))] → W p l e rm_X6_block s m args below meth c H locs 0 0 (q_GI D (q_b (hasB ((g 10) i) (nI j))) (mdW cA ad (gs g 10 (tellF is (g 10) i j)) (zs z 4 0)) A below args s) (F0 m 92 ls [.int (bitS is (upd (g 10) i (bitS is ((g 10) i) (nI j)) j) (nI i)), .int (nI j), .ref (ad 10)]) := by
    intro   H locs ls hP hD hS hl
    refine q_iast (f := upd (g 10) i (bitS is ((g 10) i) (nI j))) (ws1 := mdW cA ad (gs g 10 (upd (upd (g 10) i (bitS is ((g 10) i) (nI j))) j (bitS is (upd (g 10) i (bitS is ((g 10) i) (nI j)) j) (nI i)))) (zs z 4 0)) hx hb hK hP hD hS 8 0 rfl rfl (j) rfl (by omega) (by omega) rfl dX6_block_92 (fun H locs hP hD hS => ?_)
    obtain ⟨nF92_10, enF92_10⟩ : ∃ y : Nat → Int32, y = upd (upd (g 10) i (bitS is ((g 10) i) (nI j))) j (bitS is (upd (g 10) i (bitS is ((g 10) i) (nI j)) j) (nI i)) := ⟨_, rfl⟩
    have hP : va_P D vwCl (mdW cA ad (gs g 10 nF92_10) (zs z 4 0)) H := by rw [enF92_10]; exact hP
    have hD : va_D A (mdW cA ad (gs g 10 nF92_10) (zs z 4 0)) := by rw [enF92_10]; exact hD
    refine lv_iload hx hb dX6_block_93 (lv_at hl 4 rfl) ?_
    rw [enF92_10] at hP hD
    exact q_zret hx hb hr hlk (q_b_or _) (by rfl) (va_cast' hP (by rfl)) hS dX6_block_95
  have zqJ57 : ∀ (H : Heap) (locs : List Loc) (ls : Array Slot), va_P D vwCl (mdW cA ad g (zs z 4 0)) H → va_D A (mdW cA ad g (zs z 4 0)) → va_S A s.heap H locs → lv_has ls 5 [(0, .ref (ad 80)), (1, .int (nI i)), (2, .int (nI j)), (3, .int (q_b is)), (4, .int (q_b (hasB ((g 10) i) (nI j))))] → W p l e rm_X6_block s m args below meth c H locs 0 0 (q_GI D (q_b (hasB ((g 10) i) (nI j))) (mdW cA ad (gs g 10 (tellF is (g 10) i j)) (zs z 4 0)) A below args s) (F0 m 57 ls [.int (bitS is ((g 10) i) (nI j)), .int (nI i), .ref (ad 10)]) := by
    intro   H locs ls hP hD hS hl
    refine q_iast (f := g 10) (ws1 := mdW cA ad (gs g 10 (upd (g 10) i (bitS is ((g 10) i) (nI j)))) (zs z 4 0)) hx hb hK hP hD hS 8 0 rfl rfl (i) rfl (by omega) (by omega) rfl dX6_block_57 (fun H locs hP hD hS => ?_)
    obtain ⟨nF57_10, enF57_10⟩ : ∃ y : Nat → Int32, y = upd (g 10) i (bitS is ((g 10) i) (nI j)) := ⟨_, rfl⟩
    have hP : va_P D vwCl (mdW cA ad (gs g 10 nF57_10) (zs z 4 0)) H := by rw [enF57_10]; exact hP
    have hD : va_D A (mdW cA ad (gs g 10 nF57_10) (zs z 4 0)) := by rw [enF57_10]; exact hD
    refine lv_aload_n hx hb dX6_block_58 rfl (lv_at hl 0 rfl) ?_
    refine q_get hx hb hT hown hK hP kw_X6 0 rfl rfl 8 (by decide) kf_X6_31 rfl (v := .ref (ad 10)) rfl dX6_block_59 ?_
    refine lv_iload_n hx hb dX6_block_62 rfl (lv_at hl 2 rfl) ?_
    refine lv_iload_n hx hb dX6_block_63 rfl (lv_at hl 3 rfl) ?_
    refine lv_if_eq (tgt := 80) hx hb dX6_block_64 (by decide) (fun c_64 => ?_) (fun c_64 => ?_)
    · have c_64 := q_b0e c_64
      refine lv_aload_n hx hb dX6_block_80 rfl (lv_at hl 0 rfl) ?_
      refine q_get hx hb hT hown hK hP kw_X6 0 rfl rfl 8 (by decide) kf_X6_31 rfl (v := .ref (ad 10)) rfl dX6_block_81 ?_
      refine lv_iload_n hx hb dX6_block_84 rfl (lv_at hl 2 rfl) ?_
      refine q_iald (f := nF57_10) hx hb hK hP 8 0 rfl rfl (j) rfl (by omega) (by omega) dX6_block_85 ?_
      refine lv_iconst (v := nI 1) hx hb dX6_block_86 (by decide +kernel) ?_
      refine lv_iload_n hx hb dX6_block_87 rfl (lv_at hl 1 rfl) ?_
      refine lv_ishl hx hb dX6_block_88 ?_
      refine lv_iconst (v := (-1)) hx hb dX6_block_89 (by decide +kernel) ?_
      refine lv_ixor hx hb dX6_block_90 ?_
      refine lv_iand hx hb dX6_block_91 ?_
      rw [enF57_10] at hP hD
      rw [enF57_10]
      refine q_top (y := bitS is (upd (g 10) i (bitS is ((g 10) i) (nI j)) j) (nI i)) (by rw [c_64]; rfl) ?_
      exact zqJ92   _ _ _ hP hD hS (lv_sub hl [0, 1, 2, 3, 4] rfl)
    · have c_64 := q_b0n c_64
      refine lv_aload_n hx hb dX6_block_67 rfl (lv_at hl 0 rfl) ?_
      refine q_get hx hb hT hown hK hP kw_X6 0 rfl rfl 8 (by decide) kf_X6_31 rfl (v := .ref (ad 10)) rfl dX6_block_68 ?_
      refine lv_iload_n hx hb dX6_block_71 rfl (lv_at hl 2 rfl) ?_
      refine q_iald (f := nF57_10) hx hb hK hP 8 0 rfl rfl (j) rfl (by omega) (by omega) dX6_block_72 ?_
      refine lv_iconst (v := nI 1) hx hb dX6_block_73 (by decide +kernel) ?_
      refine lv_iload_n hx hb dX6_block_74 rfl (lv_at hl 1 rfl) ?_
      refine lv_ishl hx hb dX6_block_75 ?_
      refine lv_ior hx hb dX6_block_76 ?_
      refine lv_goto (tgt := 92) hx hb dX6_block_77 (by decide) ?_
      rw [enF57_10] at hP hD
      rw [enF57_10]
      refine q_top (y := bitS is (upd (g 10) i (bitS is ((g 10) i) (nI j)) j) (nI i)) (by rw [c_64]; rfl) ?_
      exact zqJ92   _ _ _ hP hD hS (lv_sub hl [0, 1, 2, 3, 4] rfl)
  refine lv_aload_n hx hb dX6_block_0 rfl (lv_at hl 0 rfl) ?_
  refine lv_iload_n hx hb dX6_block_1 rfl (lv_at hl 1 rfl) ?_
  refine lv_iload_n hx hb dX6_block_2 rfl (lv_at hl 2 rfl) ?_
  refine q_callIW (As := [.int (nI i), .int (nI j)]) (r := nI 1) (w1 := mdW cA ad g (zs z 4 0)) hx hb hml hown hT hK hP hD hS hA (c_X6_asksTwo l D cA ad g z i j (show i < (z 0) by omega) (show j < (z 0) by omega) (show (z 0) ≤ 16 by omega) (show ¬ i = j by omega)) k_X6_asksTwo kl_X6_136 (q0 := 0) rfl rfl rfl ((mdW_adr _ _ _ _).trans (mdW_adr _ _ _ _).symm) hl rfl rfl (Nat.le_of_ble_eq_true rfl) ⟨⟨rfl, rfl⟩, Nat.le_of_ble_eq_true rfl, Nat.le_of_ble_eq_true rfl⟩ ⟨Nat.zero_le _, Nat.zero_le _⟩ dX6_block_3 (fun H locs hP hD hS => ?_)
  refine lv_if_ne (tgt := 11) hx hb dX6_block_6 (by decide) (fun c_6 => ?_) (fun c_6 => ?_)
  · have c_6 := nI_eq0 (a := 1) (b := 0) (by omega) (by omega) c_6
    refine lv_aload_n hx hb dX6_block_11 rfl (lv_at hl 0 rfl) ?_
    refine q_get hx hb hT hown hK hP kw_X6 0 rfl rfl 8 (by decide) kf_X6_31 rfl (v := .ref (ad 10)) rfl dX6_block_12 ?_
    refine lv_iload_n hx hb dX6_block_15 rfl (lv_at hl 1 rfl) ?_
    refine q_iald (f := g 10) hx hb hK hP 8 0 rfl rfl (i) rfl (by omega) (by omega) dX6_block_16 ?_
    refine lv_iload_n hx hb dX6_block_17 rfl (lv_at hl 2 rfl) ?_
    refine q_callSI (As := [.int (g 10 i), .int (nI j)]) (r := q_b (hasB (g 10 i) (nI j))) hx hb hml hown hT hK hP hD hS hA (c_X6_has l D cA (g 10 i) (nI j)) k_X6_has kl_X6_104 hl rfl rfl (Nat.le_of_ble_eq_true rfl) ⟨⟨rfl, rfl⟩, Nat.le_of_ble_eq_true rfl, Nat.le_of_ble_eq_true rfl⟩ ⟨Nat.zero_le _, Nat.zero_le _⟩ dX6_block_18 (fun H locs hP hD hS => ?_)
    refine lv_istore (lv' := [(4, .int (q_b (hasB (g 10 i) (nI j)))), (0, .ref (ad 80)), (1, .int (nI i)), (2, .int (nI j)), (3, .int (q_b is))]) hx hb dX6_block_21 hl (by decide) rfl (fun ls hl => ?_)
    refine lv_aload_n hx hb dX6_block_23 rfl (lv_at hl 1 rfl) ?_
    refine q_get hx hb hT hown hK hP kw_X6 0 rfl rfl 8 (by decide) kf_X6_31 rfl (v := .ref (ad 10)) rfl dX6_block_24 ?_
    refine lv_iload_n hx hb dX6_block_27 rfl (lv_at hl 2 rfl) ?_
    refine lv_iload_n hx hb dX6_block_28 rfl (lv_at hl 4 rfl) ?_
    refine lv_if_eq (tgt := 45) hx hb dX6_block_29 (by decide) (fun c_29 => ?_) (fun c_29 => ?_)
    · have c_29 := q_b0e c_29
      refine lv_aload_n hx hb dX6_block_45 rfl (lv_at hl 1 rfl) ?_
      refine q_get hx hb hT hown hK hP kw_X6 0 rfl rfl 8 (by decide) kf_X6_31 rfl (v := .ref (ad 10)) rfl dX6_block_46 ?_
      refine lv_iload_n hx hb dX6_block_49 rfl (lv_at hl 2 rfl) ?_
      refine q_iald (f := g 10) hx hb hK hP 8 0 rfl rfl (i) rfl (by omega) (by omega) dX6_block_50 ?_
      refine lv_iconst (v := nI 1) hx hb dX6_block_51 (by decide +kernel) ?_
      refine lv_iload_n hx hb dX6_block_52 rfl (lv_at hl 3 rfl) ?_
      refine lv_ishl hx hb dX6_block_53 ?_
      refine lv_iconst (v := (-1)) hx hb dX6_block_54 (by decide +kernel) ?_
      refine lv_ixor hx hb dX6_block_55 ?_
      refine lv_iand hx hb dX6_block_56 ?_
      refine q_top (y := bitS is ((g 10) i) (nI j)) (by rw [c_29]; rfl) ?_
      exact zqJ57   _ _ _ hP hD hS (lv_sub hl [1, 2, 3, 4, 0] rfl)
    · have c_29 := q_b0n c_29
      refine lv_aload_n hx hb dX6_block_32 rfl (lv_at hl 1 rfl) ?_
      refine q_get hx hb hT hown hK hP kw_X6 0 rfl rfl 8 (by decide) kf_X6_31 rfl (v := .ref (ad 10)) rfl dX6_block_33 ?_
      refine lv_iload_n hx hb dX6_block_36 rfl (lv_at hl 2 rfl) ?_
      refine q_iald (f := g 10) hx hb hK hP 8 0 rfl rfl (i) rfl (by omega) (by omega) dX6_block_37 ?_
      refine lv_iconst (v := nI 1) hx hb dX6_block_38 (by decide +kernel) ?_
      refine lv_iload_n hx hb dX6_block_39 rfl (lv_at hl 3 rfl) ?_
      refine lv_ishl hx hb dX6_block_40 ?_
      refine lv_ior hx hb dX6_block_41 ?_
      refine lv_goto (tgt := 57) hx hb dX6_block_42 (by decide) ?_
      refine q_top (y := bitS is ((g 10) i) (nI j)) (by rw [c_29]; rfl) ?_
      exact zqJ57   _ _ _ hP hD hS (lv_sub hl [1, 2, 3, 4, 0] rfl)
  · have c_6 := nI_eq1 (a := 1) (b := 0) (by omega) (by omega) c_6
    exfalso; omega
abbrev rm_X6_blockx : Room := { frames := 3, cells := 0, slots := 0, locals := 65 }
set_option maxRecDepth 100000 in
set_option maxHeartbeats 4000000 in
theorem c_X6_blockx (l : Launch) (D : va_G) (cA : ClassId) (ad : Nat → Nat) (g : Nat → Nat → Int32) (z : Nat → Nat) (x : Int32) (y : Int32) (is : Bool) (hc : (z 0) ≤ 16) (h12 : ¬ (q_r x (z 0) ∧ q_r y (z 0))) : q_CI l yX6_block [Cond.code yX6_block cX6_block 5 (some .boolean)] rm_X6_blockx D cA [.ref (ad 80), .int x, .int y, .int (q_b is)] (mdW cA ad g z) (nI 0) (mdW cA ad g (zs z 4 1)) := by
  refine q_startI RX6 (by decide +kernel) rfl (Nat.le_of_ble_eq_true rfl) ?_
  intro p e s m below meth c A args H locs ls hx hb hr hml hown hT hlk hP hK hD hA hS hl
  have hl : lv_has ls 5 [(0, .ref (ad 80)), (1, .int x), (2, .int y), (3, .int (q_b is))] := hl
  refine lv_aload_n hx hb dX6_block_0 rfl (lv_at hl 0 rfl) ?_
  refine lv_iload_n hx hb dX6_block_1 rfl (lv_at hl 1 rfl) ?_
  refine lv_iload_n hx hb dX6_block_2 rfl (lv_at hl 2 rfl) ?_
  refine q_callIW (As := [.int x, .int y]) (r := nI 0) (w1 := mdW cA ad g (zs z 4 1)) hx hb hml hown hT hK hP hD hS hA (c_X6_asksTwox l D cA ad g z x y (show (z 0) ≤ 16 by omega) h12) k_X6_asksTwo kl_X6_136 (q0 := 0) rfl rfl rfl ((mdW_adr _ _ _ _).trans (mdW_adr _ _ _ _).symm) hl rfl rfl (Nat.le_of_ble_eq_true rfl) ⟨⟨rfl, rfl⟩, Nat.le_of_ble_eq_true rfl, Nat.le_of_ble_eq_true rfl⟩ ⟨Nat.zero_le _, Nat.zero_le _⟩ dX6_block_3 (fun H locs hP hD hS => ?_)
  refine lv_if_ne (tgt := 11) hx hb dX6_block_6 (by decide) (fun c_6 => ?_) (fun c_6 => ?_)
  · have c_6 := nI_eq0 (a := 0) (b := 0) (by omega) (by omega) c_6
    exfalso; omega
  · have c_6 := nI_eq1 (a := 0) (b := 0) (by omega) (by omega) c_6
    refine lv_iconst (v := nI 0) hx hb dX6_block_9 (by decide +kernel) ?_
    exact q_zret hx hb hr hlk (Or.inl rfl) (by rfl) hP hS dX6_block_10
abbrev rm_X6_blockx3 : Room := { frames := 3, cells := 0, slots := 0, locals := 65 }
set_option maxRecDepth 100000 in
set_option maxHeartbeats 4000000 in
theorem c_X6_blockx3 (l : Launch) (D : va_G) (cA : ClassId) (ad : Nat → Nat) (g : Nat → Nat → Int32) (z : Nat → Nat) (x : Int32) (y : Int32) (is : Bool) (hc : (z 0) ≤ 16) (h1 : q_r x (z 0)) (h2 : q_r y (z 0)) (hne : x = y) : q_CI l yX6_block [Cond.code yX6_block cX6_block 5 (some .boolean)] rm_X6_blockx3 D cA [.ref (ad 80), .int x, .int y, .int (q_b is)] (mdW cA ad g z) (nI 0) (mdW cA ad g (zs z 4 2)) := by
  refine q_startI RX6 (by decide +kernel) rfl (Nat.le_of_ble_eq_true rfl) ?_
  intro p e s m below meth c A args H locs ls hx hb hr hml hown hT hlk hP hK hD hA hS hl
  have hl : lv_has ls 5 [(0, .ref (ad 80)), (1, .int x), (2, .int y), (3, .int (q_b is))] := hl
  refine lv_aload_n hx hb dX6_block_0 rfl (lv_at hl 0 rfl) ?_
  refine lv_iload_n hx hb dX6_block_1 rfl (lv_at hl 1 rfl) ?_
  refine lv_iload_n hx hb dX6_block_2 rfl (lv_at hl 2 rfl) ?_
  refine q_callIW (As := [.int x, .int y]) (r := nI 0) (w1 := mdW cA ad g (zs z 4 2)) hx hb hml hown hT hK hP hD hS hA (c_X6_asksTwox3 l D cA ad g z x y (show (z 0) ≤ 16 by omega) h1 h2 hne) k_X6_asksTwo kl_X6_136 (q0 := 0) rfl rfl rfl ((mdW_adr _ _ _ _).trans (mdW_adr _ _ _ _).symm) hl rfl rfl (Nat.le_of_ble_eq_true rfl) ⟨⟨rfl, rfl⟩, Nat.le_of_ble_eq_true rfl, Nat.le_of_ble_eq_true rfl⟩ ⟨Nat.zero_le _, Nat.zero_le _⟩ dX6_block_3 (fun H locs hP hD hS => ?_)
  refine lv_if_ne (tgt := 11) hx hb dX6_block_6 (by decide) (fun c_6 => ?_) (fun c_6 => ?_)
  · have c_6 := nI_eq0 (a := 0) (b := 0) (by omega) (by omega) c_6
    exfalso; omega
  · have c_6 := nI_eq1 (a := 0) (b := 0) (by omega) (by omega) c_6
    refine lv_iconst (v := nI 0) hx hb dX6_block_9 (by decide +kernel) ?_
    exact q_zret hx hb hr hlk (Or.inl rfl) (by rfl) hP hS dX6_block_10
abbrev rm_X6_weight : Room := { frames := 3, cells := 0, slots := 0, locals := 65 }
set_option maxRecDepth 100000 in
set_option maxHeartbeats 4000000 in
theorem c_X6_weight (l : Launch) (D : va_G) (cA : ClassId) (ad : Nat → Nat) (g : Nat → Nat → Int32) (z : Nat → Nat) (i : Nat) (j : Nat) (hi : i < (z 0)) (hj : j < (z 0)) (hc : (z 0) ≤ 16) (hne : ¬ i = j) : q_CI l yX6_weight [Cond.code yX6_weight cX6_weight 3 (some .int)] rm_X6_weight D cA [.ref (ad 80), .int (nI i), .int (nI j)] (mdW cA ad g z) (nI (wtN g i j)) (mdW cA ad g (zs z 4 0)) := by
  refine q_startI RX6 (by decide +kernel) rfl (Nat.le_of_ble_eq_true rfl) ?_
  intro p e s m below meth c A args H locs ls hx hb hr hml hown hT hlk hP hK hD hA hS hl
  have hl : lv_has ls 3 [(0, .ref (ad 80)), (1, .int (nI i)), (2, .int (nI j))] := hl
  refine lv_aload_n hx hb dX6_weight_0 rfl (lv_at hl 0 rfl) ?_
  refine lv_iload_n hx hb dX6_weight_1 rfl (lv_at hl 1 rfl) ?_
  refine lv_iload_n hx hb dX6_weight_2 rfl (lv_at hl 2 rfl) ?_
  refine q_callIW (As := [.int (nI i), .int (nI j)]) (r := nI 1) (w1 := mdW cA ad g (zs z 4 0)) hx hb hml hown hT hK hP hD hS hA (c_X6_asksTwo l D cA ad g z i j (show i < (z 0) by omega) (show j < (z 0) by omega) (show (z 0) ≤ 16 by omega) (show ¬ i = j by omega)) k_X6_asksTwo kl_X6_136 (q0 := 0) rfl rfl rfl ((mdW_adr _ _ _ _).trans (mdW_adr _ _ _ _).symm) hl rfl rfl (Nat.le_of_ble_eq_true rfl) ⟨⟨rfl, rfl⟩, Nat.le_of_ble_eq_true rfl, Nat.le_of_ble_eq_true rfl⟩ ⟨Nat.zero_le _, Nat.zero_le _⟩ dX6_weight_3 (fun H locs hP hD hS => ?_)
  refine lv_if_eq (tgt := 18) hx hb dX6_weight_6 (by decide) (fun c_6 => ?_) (fun c_6 => ?_)
  · have c_6 := nI_eq1 (a := 1) (b := 0) (by omega) (by omega) c_6
    exfalso; omega
  · have c_6 := nI_eq0 (a := 1) (b := 0) (by omega) (by omega) c_6
    refine lv_aload_n hx hb dX6_weight_9 rfl (lv_at hl 0 rfl) ?_
    refine lv_iload_n hx hb dX6_weight_10 rfl (lv_at hl 1 rfl) ?_
    refine lv_iload_n hx hb dX6_weight_11 rfl (lv_at hl 2 rfl) ?_
    refine q_callIW (As := [.int (nI i), .int (nI j)]) (r := nI (wtN g i j)) (w1 := mdW cA ad g (zs z 4 0)) hx hb hml hown hT hK hP hD hS hA (c_X6_weightOf l D cA ad g (zs z 4 0) i j (show i < 16 by omega) (show j < 16 by omega)) k_X6_weightOf kl_X6_139 (q0 := 0) rfl rfl rfl ((mdW_adr _ _ _ _).trans (mdW_adr _ _ _ _).symm) hl rfl rfl (Nat.le_of_ble_eq_true rfl) ⟨⟨rfl, rfl⟩, Nat.le_of_ble_eq_true rfl, Nat.le_of_ble_eq_true rfl⟩ ⟨Nat.zero_le _, Nat.zero_le _⟩ dX6_weight_12 (fun H locs hP hD hS => ?_)
    refine lv_goto (tgt := 19) hx hb dX6_weight_15 (by decide) ?_
    exact q_iret hx hb hr hlk (by rfl) hP hS dX6_weight_19
abbrev rm_X6_weightx : Room := { frames := 3, cells := 0, slots := 0, locals := 65 }
set_option maxRecDepth 100000 in
set_option maxHeartbeats 4000000 in
theorem c_X6_weightx (l : Launch) (D : va_G) (cA : ClassId) (ad : Nat → Nat) (g : Nat → Nat → Int32) (z : Nat → Nat) (x : Int32) (y : Int32) (hc : (z 0) ≤ 16) (h12 : ¬ (q_r x (z 0) ∧ q_r y (z 0))) : q_CI l yX6_weight [Cond.code yX6_weight cX6_weight 3 (some .int)] rm_X6_weightx D cA [.ref (ad 80), .int x, .int y] (mdW cA ad g z) (nI 0) (mdW cA ad g (zs z 4 1)) := by
  refine q_startI RX6 (by decide +kernel) rfl (Nat.le_of_ble_eq_true rfl) ?_
  intro p e s m below meth c A args H locs ls hx hb hr hml hown hT hlk hP hK hD hA hS hl
  have hl : lv_has ls 3 [(0, .ref (ad 80)), (1, .int x), (2, .int y)] := hl
  refine lv_aload_n hx hb dX6_weight_0 rfl (lv_at hl 0 rfl) ?_
  refine lv_iload_n hx hb dX6_weight_1 rfl (lv_at hl 1 rfl) ?_
  refine lv_iload_n hx hb dX6_weight_2 rfl (lv_at hl 2 rfl) ?_
  refine q_callIW (As := [.int x, .int y]) (r := nI 0) (w1 := mdW cA ad g (zs z 4 1)) hx hb hml hown hT hK hP hD hS hA (c_X6_asksTwox l D cA ad g z x y (show (z 0) ≤ 16 by omega) h12) k_X6_asksTwo kl_X6_136 (q0 := 0) rfl rfl rfl ((mdW_adr _ _ _ _).trans (mdW_adr _ _ _ _).symm) hl rfl rfl (Nat.le_of_ble_eq_true rfl) ⟨⟨rfl, rfl⟩, Nat.le_of_ble_eq_true rfl, Nat.le_of_ble_eq_true rfl⟩ ⟨Nat.zero_le _, Nat.zero_le _⟩ dX6_weight_3 (fun H locs hP hD hS => ?_)
  refine lv_if_eq (tgt := 18) hx hb dX6_weight_6 (by decide) (fun c_6 => ?_) (fun c_6 => ?_)
  · have c_6 := nI_eq1 (a := 0) (b := 0) (by omega) (by omega) c_6
    refine lv_iconst (v := nI 0) hx hb dX6_weight_18 (by decide +kernel) ?_
    exact q_iret hx hb hr hlk (by rfl) hP hS dX6_weight_19
  · have c_6 := nI_eq0 (a := 0) (b := 0) (by omega) (by omega) c_6
    exfalso; omega
abbrev rm_X6_weightx3 : Room := { frames := 3, cells := 0, slots := 0, locals := 65 }
set_option maxRecDepth 100000 in
set_option maxHeartbeats 4000000 in
theorem c_X6_weightx3 (l : Launch) (D : va_G) (cA : ClassId) (ad : Nat → Nat) (g : Nat → Nat → Int32) (z : Nat → Nat) (x : Int32) (y : Int32) (hc : (z 0) ≤ 16) (h1 : q_r x (z 0)) (h2 : q_r y (z 0)) (hne : x = y) : q_CI l yX6_weight [Cond.code yX6_weight cX6_weight 3 (some .int)] rm_X6_weightx3 D cA [.ref (ad 80), .int x, .int y] (mdW cA ad g z) (nI 0) (mdW cA ad g (zs z 4 2)) := by
  refine q_startI RX6 (by decide +kernel) rfl (Nat.le_of_ble_eq_true rfl) ?_
  intro p e s m below meth c A args H locs ls hx hb hr hml hown hT hlk hP hK hD hA hS hl
  have hl : lv_has ls 3 [(0, .ref (ad 80)), (1, .int x), (2, .int y)] := hl
  refine lv_aload_n hx hb dX6_weight_0 rfl (lv_at hl 0 rfl) ?_
  refine lv_iload_n hx hb dX6_weight_1 rfl (lv_at hl 1 rfl) ?_
  refine lv_iload_n hx hb dX6_weight_2 rfl (lv_at hl 2 rfl) ?_
  refine q_callIW (As := [.int x, .int y]) (r := nI 0) (w1 := mdW cA ad g (zs z 4 2)) hx hb hml hown hT hK hP hD hS hA (c_X6_asksTwox3 l D cA ad g z x y (show (z 0) ≤ 16 by omega) h1 h2 hne) k_X6_asksTwo kl_X6_136 (q0 := 0) rfl rfl rfl ((mdW_adr _ _ _ _).trans (mdW_adr _ _ _ _).symm) hl rfl rfl (Nat.le_of_ble_eq_true rfl) ⟨⟨rfl, rfl⟩, Nat.le_of_ble_eq_true rfl, Nat.le_of_ble_eq_true rfl⟩ ⟨Nat.zero_le _, Nat.zero_le _⟩ dX6_weight_3 (fun H locs hP hD hS => ?_)
  refine lv_if_eq (tgt := 18) hx hb dX6_weight_6 (by decide) (fun c_6 => ?_) (fun c_6 => ?_)
  · have c_6 := nI_eq1 (a := 0) (b := 0) (by omega) (by omega) c_6
    refine lv_iconst (v := nI 0) hx hb dX6_weight_18 (by decide +kernel) ?_
    exact q_iret hx hb hr hlk (by rfl) hP hS dX6_weight_19
  · have c_6 := nI_eq0 (a := 0) (b := 0) (by omega) (by omega) c_6
    exfalso; omega
abbrev rm_X6_whyNot : Room := { frames := 4, cells := 0, slots := 0, locals := 93 }
set_option maxRecDepth 100000 in
set_option maxHeartbeats 4000000 in
theorem c_X6_whyNot (l : Launch) (D : va_G) (cA : ClassId) (ad : Nat → Nat) (g : Nat → Nat → Int32) (z : Nat → Nat) (i : Nat) (j : Nat) (hi : i < (z 0)) (hj : j < (z 0)) (hc : (z 0) ≤ 16) (hne : ¬ i = j) (hPo : ∀ k, k < (z 0) → (g 3) k = (-1) ∨ q_r ((g 3) k) 8) : q_CI l yX6_whyNot [Cond.code yX6_whyNot cX6_whyNot 3 (some .int)] rm_X6_whyNot D cA [.ref (ad 80), .int (nI i), .int (nI j)] (mdW cA ad g z) (nI (rsN g (z 0) i j)) (mdW cA ad g (zs z 4 0)) := by
  refine q_startI RX6 (by decide +kernel) rfl (Nat.le_of_ble_eq_true rfl) ?_
  intro p e s m below meth c A args H locs ls hx hb hr hml hown hT hlk hP hK hD hA hS hl
  have hl : lv_has ls 3 [(0, .ref (ad 80)), (1, .int (nI i)), (2, .int (nI j))] := hl
  refine lv_aload_n hx hb dX6_whyNot_0 rfl (lv_at hl 0 rfl) ?_
  refine lv_iload_n hx hb dX6_whyNot_1 rfl (lv_at hl 1 rfl) ?_
  refine lv_iload_n hx hb dX6_whyNot_2 rfl (lv_at hl 2 rfl) ?_
  refine q_callIW (As := [.int (nI i), .int (nI j)]) (r := nI 1) (w1 := mdW cA ad g (zs z 4 0)) hx hb hml hown hT hK hP hD hS hA (c_X6_asksTwo l D cA ad g z i j (show i < (z 0) by omega) (show j < (z 0) by omega) (show (z 0) ≤ 16 by omega) (show ¬ i = j by omega)) k_X6_asksTwo kl_X6_136 (q0 := 0) rfl rfl rfl ((mdW_adr _ _ _ _).trans (mdW_adr _ _ _ _).symm) hl rfl rfl (Nat.le_of_ble_eq_true rfl) ⟨⟨rfl, rfl⟩, Nat.le_of_ble_eq_true rfl, Nat.le_of_ble_eq_true rfl⟩ ⟨Nat.zero_le _, Nat.zero_le _⟩ dX6_whyNot_3 (fun H locs hP hD hS => ?_)
  refine lv_if_eq (tgt := 18) hx hb dX6_whyNot_6 (by decide) (fun c_6 => ?_) (fun c_6 => ?_)
  · have c_6 := nI_eq1 (a := 1) (b := 0) (by omega) (by omega) c_6
    exfalso; omega
  · have c_6 := nI_eq0 (a := 1) (b := 0) (by omega) (by omega) c_6
    refine lv_aload_n hx hb dX6_whyNot_9 rfl (lv_at hl 0 rfl) ?_
    refine lv_iload_n hx hb dX6_whyNot_10 rfl (lv_at hl 1 rfl) ?_
    refine lv_iload_n hx hb dX6_whyNot_11 rfl (lv_at hl 2 rfl) ?_
    refine q_callIW (As := [.int (nI i), .int (nI j)]) (r := nI (rsN g (z 0) i j)) (w1 := mdW cA ad g (zs z 4 0)) hx hb hml hown hT hK hP hD hS hA (c_X6_reason l D cA ad g (zs z 4 0) i j (show i < (z 0) by omega) (show j < (z 0) by omega) (show (z 0) ≤ 16 by omega) hPo) k_X6_reason kl_X6_152 (q0 := 0) rfl rfl rfl ((mdW_adr _ _ _ _).trans (mdW_adr _ _ _ _).symm) hl rfl rfl (Nat.le_of_ble_eq_true rfl) ⟨⟨rfl, rfl⟩, Nat.le_of_ble_eq_true rfl, Nat.le_of_ble_eq_true rfl⟩ ⟨Nat.zero_le _, Nat.zero_le _⟩ dX6_whyNot_12 (fun H locs hP hD hS => ?_)
    refine lv_goto (tgt := 19) hx hb dX6_whyNot_15 (by decide) ?_
    exact q_iret hx hb hr hlk (by rfl) hP hS dX6_whyNot_19
abbrev rm_X6_whyNotx : Room := { frames := 3, cells := 0, slots := 0, locals := 65 }
set_option maxRecDepth 100000 in
set_option maxHeartbeats 4000000 in
theorem c_X6_whyNotx (l : Launch) (D : va_G) (cA : ClassId) (ad : Nat → Nat) (g : Nat → Nat → Int32) (z : Nat → Nat) (x : Int32) (y : Int32) (hc : (z 0) ≤ 16) (h12 : ¬ (q_r x (z 0) ∧ q_r y (z 0))) : q_CI l yX6_whyNot [Cond.code yX6_whyNot cX6_whyNot 3 (some .int)] rm_X6_whyNotx D cA [.ref (ad 80), .int x, .int y] (mdW cA ad g z) (nI 0) (mdW cA ad g (zs z 4 1)) := by
  refine q_startI RX6 (by decide +kernel) rfl (Nat.le_of_ble_eq_true rfl) ?_
  intro p e s m below meth c A args H locs ls hx hb hr hml hown hT hlk hP hK hD hA hS hl
  have hl : lv_has ls 3 [(0, .ref (ad 80)), (1, .int x), (2, .int y)] := hl
  refine lv_aload_n hx hb dX6_whyNot_0 rfl (lv_at hl 0 rfl) ?_
  refine lv_iload_n hx hb dX6_whyNot_1 rfl (lv_at hl 1 rfl) ?_
  refine lv_iload_n hx hb dX6_whyNot_2 rfl (lv_at hl 2 rfl) ?_
  refine q_callIW (As := [.int x, .int y]) (r := nI 0) (w1 := mdW cA ad g (zs z 4 1)) hx hb hml hown hT hK hP hD hS hA (c_X6_asksTwox l D cA ad g z x y (show (z 0) ≤ 16 by omega) h12) k_X6_asksTwo kl_X6_136 (q0 := 0) rfl rfl rfl ((mdW_adr _ _ _ _).trans (mdW_adr _ _ _ _).symm) hl rfl rfl (Nat.le_of_ble_eq_true rfl) ⟨⟨rfl, rfl⟩, Nat.le_of_ble_eq_true rfl, Nat.le_of_ble_eq_true rfl⟩ ⟨Nat.zero_le _, Nat.zero_le _⟩ dX6_whyNot_3 (fun H locs hP hD hS => ?_)
  refine lv_if_eq (tgt := 18) hx hb dX6_whyNot_6 (by decide) (fun c_6 => ?_) (fun c_6 => ?_)
  · have c_6 := nI_eq1 (a := 0) (b := 0) (by omega) (by omega) c_6
    refine lv_iconst (v := nI 0) hx hb dX6_whyNot_18 (by decide +kernel) ?_
    exact q_iret hx hb hr hlk (by rfl) hP hS dX6_whyNot_19
  · have c_6 := nI_eq0 (a := 0) (b := 0) (by omega) (by omega) c_6
    exfalso; omega
abbrev rm_X6_whyNotx3 : Room := { frames := 3, cells := 0, slots := 0, locals := 65 }
set_option maxRecDepth 100000 in
set_option maxHeartbeats 4000000 in
theorem c_X6_whyNotx3 (l : Launch) (D : va_G) (cA : ClassId) (ad : Nat → Nat) (g : Nat → Nat → Int32) (z : Nat → Nat) (x : Int32) (y : Int32) (hc : (z 0) ≤ 16) (h1 : q_r x (z 0)) (h2 : q_r y (z 0)) (hne : x = y) : q_CI l yX6_whyNot [Cond.code yX6_whyNot cX6_whyNot 3 (some .int)] rm_X6_whyNotx3 D cA [.ref (ad 80), .int x, .int y] (mdW cA ad g z) (nI 0) (mdW cA ad g (zs z 4 2)) := by
  refine q_startI RX6 (by decide +kernel) rfl (Nat.le_of_ble_eq_true rfl) ?_
  intro p e s m below meth c A args H locs ls hx hb hr hml hown hT hlk hP hK hD hA hS hl
  have hl : lv_has ls 3 [(0, .ref (ad 80)), (1, .int x), (2, .int y)] := hl
  refine lv_aload_n hx hb dX6_whyNot_0 rfl (lv_at hl 0 rfl) ?_
  refine lv_iload_n hx hb dX6_whyNot_1 rfl (lv_at hl 1 rfl) ?_
  refine lv_iload_n hx hb dX6_whyNot_2 rfl (lv_at hl 2 rfl) ?_
  refine q_callIW (As := [.int x, .int y]) (r := nI 0) (w1 := mdW cA ad g (zs z 4 2)) hx hb hml hown hT hK hP hD hS hA (c_X6_asksTwox3 l D cA ad g z x y (show (z 0) ≤ 16 by omega) h1 h2 hne) k_X6_asksTwo kl_X6_136 (q0 := 0) rfl rfl rfl ((mdW_adr _ _ _ _).trans (mdW_adr _ _ _ _).symm) hl rfl rfl (Nat.le_of_ble_eq_true rfl) ⟨⟨rfl, rfl⟩, Nat.le_of_ble_eq_true rfl, Nat.le_of_ble_eq_true rfl⟩ ⟨Nat.zero_le _, Nat.zero_le _⟩ dX6_whyNot_3 (fun H locs hP hD hS => ?_)
  refine lv_if_eq (tgt := 18) hx hb dX6_whyNot_6 (by decide) (fun c_6 => ?_) (fun c_6 => ?_)
  · have c_6 := nI_eq1 (a := 0) (b := 0) (by omega) (by omega) c_6
    refine lv_iconst (v := nI 0) hx hb dX6_whyNot_18 (by decide +kernel) ?_
    exact q_iret hx hb hr hlk (by rfl) hP hS dX6_whyNot_19
  · have c_6 := nI_eq0 (a := 0) (b := 0) (by omega) (by omega) c_6
    exfalso; omega
