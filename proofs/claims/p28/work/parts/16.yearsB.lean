abbrev rm_X4_comesToRest : Room := { frames := 2, cells := 0, slots := 0, locals := 48 }
set_option maxRecDepth 100000 in
set_option maxHeartbeats 4000000 in
theorem c_X4_comesToRest (l : Launch) (D : va_G) (cA : ClassId) (ad : Nat → Nat) (g : Nat → Nat → Int32) (z : Nat → Nat)  (hE : ∀ k, k < (z 1) → q_r ((g 14) k) 16 ∧ q_r ((g 15) k) 16) (ht : (z 1) ≤ 40) : q_CI l yX4_comesToRest [Cond.code yX4_comesToRest cX4_comesToRest 2 (some .boolean)] rm_X4_comesToRest D cA [.ref (ad 71)] (yrW cA ad g z) (q_b (itR (g 14) (g 15) (g 16) (g 19) (g 20) (z 1))) (yrW cA ad (gs (gs g 19 (itF (g 14) (g 15) (g 16) (g 19) (z 1) 16)) 20 (itL (g 14) (g 15) (g 16) (g 20) (z 1) 16)) z) := by
  refine q_startI RX4 (by decide +kernel) rfl (Nat.le_of_ble_eq_true rfl) ?_
  intro p e s m below meth c A args H locs ls hx hb hr hml hown hT hlk hP hK hD hA hS hl
  have hl : lv_has ls 2 [(0, .ref (ad 71))] := hl
  have zqL2 : ∀ (fu : Nat), ∀ (r : Nat), (16 + 1 ≤ r + fu) → (r ≤ 16) → (∀ j, j < r → itC (g 14) (g 15) (g 16) (g 19) (g 20) (z 1) j = true) → ∀ (H : Heap) (locs : List Loc) (ls : Array Slot), va_P D vwCl (yrW cA ad (gs (gs g 19 (itF (g 14) (g 15) (g 16) (g 19) (z 1) r)) 20 (itL (g 14) (g 15) (g 16) (g 20) (z 1) r)) z) H → va_D A (yrW cA ad (gs (gs g 19 (itF (g 14) (g 15) (g 16) (g 19) (z 1) r)) 20 (itL (g 14) (g 15) (g 16) (g 20) (z 1) r)) z) → va_S A s.heap H locs → lv_has ls 2 [(0, .ref (ad 71)), (1, .int (nI r))] → W p l e rm_X4_comesToRest s m args below meth c H locs 0 0 (q_GI D (q_b (itR (g 14) (g 15) (g 16) (g 19) (g 20) (z 1))) (yrW cA ad (gs (gs g 19 (itF (g 14) (g 15) (g 16) (g 19) (z 1) 16)) 20 (itL (g 14) (g 15) (g 16) (g 20) (z 1) 16)) z) A below args s) (F0 m 2 ls []) := by
    intro fu
    induction fu with
    | zero =>
      intro r hfu hr9 hc H locs ls hP hD hS hl
      exfalso; omega
    | succ fu ih2 =>
      intro r hfu hr9 hc H locs ls hP hD hS hl
      refine lv_iload_n hx hb dX4_comesToRest_2 rfl (lv_at hl 1 rfl) ?_
      refine lv_bipush (v := nI 16) hx hb dX4_comesToRest_3 (by decide +kernel) ?_
      refine lv_icmp_ge (tgt := 23) hx hb dX4_comesToRest_5 (by decide) (fun c_5 => ?_) (fun c_5 => ?_)
      · have c_5 := nI_le1 (a := 16) (b := r) (by omega) (by omega) c_5
        refine lv_iconst (v := nI 0) hx hb dX4_comesToRest_23 (by decide +kernel) ?_
        exact q_zret hx hb hr hlk (Or.inl rfl) (by exact q_bf (itR_f (fun j hj => hc j (by omega)))) (va_cast' hP (by rw [show r = 16 by omega])) hS dX4_comesToRest_24
      · have c_5 := nI_le0 (a := 16) (b := r) (by omega) (by omega) c_5
        refine lv_aload_n hx hb dX4_comesToRest_8 rfl (lv_at hl 0 rfl) ?_
        refine q_callIW (As := []) (r := q_b (psC (g 14) (g 15) (g 16) (itF (g 14) (g 15) (g 16) (g 19) (z 1) r) (itL (g 14) (g 15) (g 16) (g 20) (z 1) r) (z 1))) (w1 := yrW cA ad (gs (gs g 19 (psF (g 14) (g 15) (g 16) (itF (g 14) (g 15) (g 16) (g 19) (z 1) r) (z 1))) 20 (psL (g 14) (g 15) (g 16) (itL (g 14) (g 15) (g 16) (g 20) (z 1) r) (z 1))) z) hx hb hml hown hT hK hP hD hS hA (c_X4_pushAll l D cA ad (gs (gs g 19 (itF (g 14) (g 15) (g 16) (g 19) (z 1) r)) 20 (itL (g 14) (g 15) (g 16) (g 20) (z 1) r)) z hE (show (z 1) ≤ 40 by omega)) k_X4_pushAll kl_X4_96 (q0 := 0) rfl rfl rfl ((yrW_adr _ _ _ _).trans (yrW_adr _ _ _ _).symm) hl rfl rfl (Nat.le_of_ble_eq_true rfl) ⟨⟨rfl, rfl⟩, Nat.le_of_ble_eq_true rfl, Nat.le_of_ble_eq_true rfl⟩ ⟨Nat.zero_le _, Nat.zero_le _⟩ dX4_comesToRest_9 (fun H locs hP hD hS => ?_)
        obtain ⟨nF9_19, enF9_19⟩ : ∃ y : Nat → Int32, y = psF (g 14) (g 15) (g 16) (itF (g 14) (g 15) (g 16) (g 19) (z 1) r) (z 1) := ⟨_, rfl⟩
        have hP : va_P D vwCl (yrW cA ad (gs (gs g 19 nF9_19) 20 (psL (g 14) (g 15) (g 16) (itL (g 14) (g 15) (g 16) (g 20) (z 1) r) (z 1))) z) H := by rw [enF9_19]; exact hP
        have hD : va_D A (yrW cA ad (gs (gs g 19 nF9_19) 20 (psL (g 14) (g 15) (g 16) (itL (g 14) (g 15) (g 16) (g 20) (z 1) r) (z 1))) z) := by rw [enF9_19]; exact hD
        obtain ⟨nF9_20, enF9_20⟩ : ∃ y : Nat → Int32, y = psL (g 14) (g 15) (g 16) (itL (g 14) (g 15) (g 16) (g 20) (z 1) r) (z 1) := ⟨_, rfl⟩
        have hP : va_P D vwCl (yrW cA ad (gs (gs g 19 nF9_19) 20 nF9_20) z) H := by rw [enF9_20]; exact hP
        have hD : va_D A (yrW cA ad (gs (gs g 19 nF9_19) 20 nF9_20) z) := by rw [enF9_20]; exact hD
        refine lv_if_ne (tgt := 17) hx hb dX4_comesToRest_12 (by decide) (fun c_12 => ?_) (fun c_12 => ?_)
        · have c_12 := q_b0n c_12
          refine lv_iinc (v := nI (r + 1)) (lv' := [(1, .int (nI (r + 1))), (0, .ref (ad 71))]) hx hb dX4_comesToRest_17 hl (k := 1) rfl (q_inc1 _) (by decide) rfl (fun ls hl => ?_)
          refine lv_goto (tgt := 2) hx hb dX4_comesToRest_20 (by decide) ?_
          rw [enF9_20] at hP hD
          rw [enF9_19] at hP hD
          have ew9 : (yrW cA ad (gs (gs g 19 (psF (g 14) (g 15) (g 16) (itF (g 14) (g 15) (g 16) (g 19) (z 1) r) (z 1))) 20 (psL (g 14) (g 15) (g 16) (itL (g 14) (g 15) (g 16) (g 20) (z 1) r) (z 1))) z) = (yrW cA ad (gs (gs g 19 (itF (g 14) (g 15) (g 16) (g 19) (z 1) (r + 1))) 20 (itL (g 14) (g 15) (g 16) (g 20) (z 1) (r + 1))) z) := by first | with_reducible rfl | (rfl)
          have hP : va_P D vwCl (yrW cA ad (gs (gs g 19 (itF (g 14) (g 15) (g 16) (g 19) (z 1) (r + 1))) 20 (itL (g 14) (g 15) (g 16) (g 20) (z 1) (r + 1))) z) H := va_cast' hP ew9
          have hD : va_D A (yrW cA ad (gs (gs g 19 (itF (g 14) (g 15) (g 16) (g 19) (z 1) (r + 1))) 20 (itL (g 14) (g 15) (g 16) (g 20) (z 1) (r + 1))) z) := va_castD hD ew9
          exact ih2 (r + 1) (by omega) (by omega) (fun j hj => by rcases Nat.lt_or_ge j r with q | q; exact hc j q; rw [show j = r by omega]; exact c_12) _ _ _ hP hD hS (lv_sub hl [1, 0] rfl)
        · have c_12 := q_b0e c_12
          refine lv_iconst (v := nI 1) hx hb dX4_comesToRest_15 (by decide +kernel) ?_
          rw [enF9_20] at hP hD
          rw [enF9_19] at hP hD
          exact q_zret hx hb hr hlk (Or.inr rfl) (by exact q_bt (itR_t (by omega) c_12)) (va_cast' hP (by first | rw [← (it_16 c_12 (by omega)).1, ← (it_16 c_12 (by omega)).2]; rfl)) hS dX4_comesToRest_16
  refine lv_iconst (v := nI 0) hx hb dX4_comesToRest_0 (by decide +kernel) ?_
  refine lv_istore_n (lv' := [(1, .int (nI 0)), (0, .ref (ad 71))]) hx hb dX4_comesToRest_1 rfl hl (by decide) rfl (fun ls hl => ?_)
  have ew9 : (yrW cA ad g z) = (yrW cA ad (gs (gs g 19 (itF (g 14) (g 15) (g 16) (g 19) (z 1) 0)) 20 (itL (g 14) (g 15) (g 16) (g 20) (z 1) 0)) z) := by first | with_reducible rfl | (rfl)
  have hP : va_P D vwCl (yrW cA ad (gs (gs g 19 (itF (g 14) (g 15) (g 16) (g 19) (z 1) 0)) 20 (itL (g 14) (g 15) (g 16) (g 20) (z 1) 0)) z) H := va_cast' hP ew9
  have hD : va_D A (yrW cA ad (gs (gs g 19 (itF (g 14) (g 15) (g 16) (g 19) (z 1) 0)) 20 (itL (g 14) (g 15) (g 16) (g 20) (z 1) 0)) z) := va_castD hD ew9
  exact zqL2 (16 + 1) 0 (by omega) (by omega) (fun _ h => absurd h (Nat.not_lt_zero _)) _ _ _ hP hD hS (lv_sub hl [1, 0] rfl)
abbrev rm_X4_leavesYears : Room := { frames := 1, cells := 0, slots := 0, locals := 21 }
set_option maxRecDepth 100000 in
set_option maxHeartbeats 4000000 in
theorem c_X4_leavesYears (l : Launch) (D : va_G) (cA : ClassId) (ad : Nat → Nat) (g : Nat → Nat → Int32) (z : Nat → Nat)   : q_CI l yX4_leavesYears [Cond.code yX4_leavesYears cX4_leavesYears 2 (some .boolean)] rm_X4_leavesYears D cA [.ref (ad 71)] (yrW cA ad g z) (q_b (leB (g 19) (g 20) 16)) (yrW cA ad g z) := by
  refine q_startI RX4 (by decide +kernel) rfl (Nat.le_of_ble_eq_true rfl) ?_
  intro p e s m below meth c A args H locs ls hx hb hr hml hown hT hlk hP hK hD hA hS hl
  have hl : lv_has ls 2 [(0, .ref (ad 71))] := hl
  have zqL2 : ∀ (fu : Nat), ∀ (k : Nat), (16 + 1 ≤ k + fu) → (k ≤ 16) → (∀ j, j < k → (g 19) j ≤ (g 20) j) → ∀ (H : Heap) (locs : List Loc) (ls : Array Slot), va_P D vwCl (yrW cA ad g z) H → va_D A (yrW cA ad g z) → va_S A s.heap H locs → lv_has ls 2 [(0, .ref (ad 71)), (1, .int (nI k))] → W p l e rm_X4_leavesYears s m args below meth c H locs 0 0 (q_GI D (q_b (leB (g 19) (g 20) 16)) (yrW cA ad g z) A below args s) (F0 m 2 ls []) := by
    intro fu
    induction fu with
    | zero =>
      intro k hfu hk hc H locs ls hP hD hS hl
      exfalso; omega
    | succ fu ih2 =>
      intro k hfu hk hc H locs ls hP hD hS hl
      refine lv_iload_n hx hb dX4_leavesYears_2 rfl (lv_at hl 1 rfl) ?_
      refine lv_bipush (v := nI 16) hx hb dX4_leavesYears_3 (by decide +kernel) ?_
      refine lv_icmp_ge (tgt := 35) hx hb dX4_leavesYears_5 (by decide) (fun c_5 => ?_) (fun c_5 => ?_)
      · have c_5 := nI_le1 (a := 16) (b := k) (by omega) (by omega) c_5
        refine lv_iconst (v := nI 1) hx hb dX4_leavesYears_35 (by decide +kernel) ?_
        exact q_zret hx hb hr hlk (Or.inr rfl) (by exact q_bt (leB_t (fun j hj => hc j (by omega)))) hP hS dX4_leavesYears_36
      · have c_5 := nI_le0 (a := 16) (b := k) (by omega) (by omega) c_5
        refine lv_aload_n hx hb dX4_leavesYears_8 rfl (lv_at hl 0 rfl) ?_
        refine q_get hx hb hT hown hK hP kw_X4 0 rfl rfl 7 (by decide) kf_X4_38 rfl (v := .ref (ad 19)) rfl dX4_leavesYears_9 ?_
        refine lv_iload_n hx hb dX4_leavesYears_12 rfl (lv_at hl 1 rfl) ?_
        refine q_callI (As := [.int (nI k)]) (r := g 19 k) (wc := rowW cA (ad 19) (ad 49) 16 (g 19)) (w1 := rowW cA (ad 19) (ad 49) 16 (g 19)) (ws1 := yrW cA ad g z) hx hb hml hown hT hK hP hD hS hA (c_X3_atN l D cA (ad 19) (ad 49) 16 (g 19) k (by omega) (by omega)) k_X3_at kl_X4_54 (q0 := 0) rfl rfl rfl [15, 16] rfl rfl rfl rfl hl rfl rfl (Nat.le_of_ble_eq_true rfl) ⟨⟨rfl, rfl⟩, Nat.le_of_ble_eq_true rfl, Nat.le_of_ble_eq_true rfl⟩ ⟨Nat.zero_le _, Nat.zero_le _⟩ dX4_leavesYears_13 (fun H locs hP hD hS => ?_)
        refine lv_aload_n hx hb dX4_leavesYears_16 rfl (lv_at hl 0 rfl) ?_
        refine q_get hx hb hT hown hK hP kw_X4 0 rfl rfl 8 (by decide) kf_X4_41 rfl (v := .ref (ad 20)) rfl dX4_leavesYears_17 ?_
        refine lv_iload_n hx hb dX4_leavesYears_20 rfl (lv_at hl 1 rfl) ?_
        refine q_callI (As := [.int (nI k)]) (r := g 20 k) (wc := rowW cA (ad 20) (ad 50) 16 (g 20)) (w1 := rowW cA (ad 20) (ad 50) 16 (g 20)) (ws1 := yrW cA ad g z) hx hb hml hown hT hK hP hD hS hA (c_X3_atN l D cA (ad 20) (ad 50) 16 (g 20) k (by omega) (by omega)) k_X3_at kl_X4_54 (q0 := 0) rfl rfl rfl [17, 18] rfl rfl rfl rfl hl rfl rfl (Nat.le_of_ble_eq_true rfl) ⟨⟨rfl, rfl⟩, Nat.le_of_ble_eq_true rfl, Nat.le_of_ble_eq_true rfl⟩ ⟨Nat.zero_le _, Nat.zero_le _⟩ dX4_leavesYears_21 (fun H locs hP hD hS => ?_)
        refine lv_icmp_le (tgt := 29) hx hb dX4_leavesYears_24 (by decide) (fun c_24 => ?_) (fun c_24 => ?_)
        · refine lv_iinc (v := nI (k + 1)) (lv' := [(1, .int (nI (k + 1))), (0, .ref (ad 71))]) hx hb dX4_leavesYears_29 hl (k := 1) rfl (q_inc1 _) (by decide) rfl (fun ls hl => ?_)
          refine lv_goto (tgt := 2) hx hb dX4_leavesYears_32 (by decide) ?_
          exact ih2 (k + 1) (by omega) (by omega) (fun j hj => by rcases Nat.lt_or_ge j k with q | q; exact hc j q; rw [show j = k by omega]; exact c_24) _ _ _ hP hD hS (lv_sub hl [1, 0] rfl)
        · refine lv_iconst (v := nI 0) hx hb dX4_leavesYears_27 (by decide +kernel) ?_
          exact q_zret hx hb hr hlk (Or.inl rfl) (by exact q_bf (leB_f (j := k) (by omega) c_24)) hP hS dX4_leavesYears_28
  refine lv_iconst (v := nI 0) hx hb dX4_leavesYears_0 (by decide +kernel) ?_
  refine lv_istore_n (lv' := [(1, .int (nI 0)), (0, .ref (ad 71))]) hx hb dX4_leavesYears_1 rfl hl (by decide) rfl (fun ls hl => ?_)
  exact zqL2 (16 + 1) 0 (by omega) (by omega) (fun _ h => absurd h (Nat.not_lt_zero _)) _ _ _ hP hD hS (lv_sub hl [1, 0] rfl)
abbrev rm_X4_countMoved : Room := { frames := 1, cells := 0, slots := 0, locals := 21 }
set_option maxRecDepth 100000 in
set_option maxHeartbeats 4000000 in
theorem c_X4_countMoved (l : Launch) (D : va_G) (cA : ClassId) (ad : Nat → Nat) (g : Nat → Nat → Int32) (z : Nat → Nat)   : q_CI l yX4_countMoved [Cond.code yX4_countMoved cX4_countMoved 3 (some .int)] rm_X4_countMoved D cA [.ref (ad 71)] (yrW cA ad g z) (nI (mvd (g 19) (g 20) (g 17) (g 18) 16)) (yrW cA ad g z) := by
  refine q_startI RX4 (by decide +kernel) rfl (Nat.le_of_ble_eq_true rfl) ?_
  intro p e s m below meth c A args H locs ls hx hb hr hml hown hT hlk hP hK hD hA hS hl
  have hl : lv_has ls 3 [(0, .ref (ad 71))] := hl
  have zqL4 : ∀ (fu : Nat), ∀ (k : Nat), (16 + 1 ≤ k + fu) → (k ≤ 16) → ∀ (H : Heap) (locs : List Loc) (ls : Array Slot), va_P D vwCl (yrW cA ad g z) H → va_D A (yrW cA ad g z) → va_S A s.heap H locs → lv_has ls 3 [(0, .ref (ad 71)), (1, .int (nI (mvd (g 19) (g 20) (g 17) (g 18) k))), (2, .int (nI k))] → W p l e rm_X4_countMoved s m args below meth c H locs 0 0 (q_GI D (nI (mvd (g 19) (g 20) (g 17) (g 18) 16)) (yrW cA ad g z) A below args s) (F0 m 4 ls []) := by
    intro fu
    induction fu with
    | zero =>
      intro k hfu hk H locs ls hP hD hS hl
      exfalso; omega
    | succ fu ih4 =>
      intro k hfu hk H locs ls hP hD hS hl
      have zqJ51 : (k < 16) → ∀ (H : Heap) (locs : List Loc) (ls : Array Slot), va_P D vwCl (yrW cA ad g z) H → va_D A (yrW cA ad g z) → va_S A s.heap H locs → lv_has ls 3 [(0, .ref (ad 71)), (1, .int (nI (mvd (g 19) (g 20) (g 17) (g 18) (k + 1)))), (2, .int (nI k))] → W p l e rm_X4_countMoved s m args below meth c H locs 0 0 (q_GI D (nI (mvd (g 19) (g 20) (g 17) (g 18) 16)) (yrW cA ad g z) A below args s) (F0 m 51 ls []) := by
        intro  hk9 H locs ls hP hD hS hl
        refine lv_iinc (v := nI (k + 1)) (lv' := [(2, .int (nI (k + 1))), (0, .ref (ad 71)), (1, .int (nI (mvd (g 19) (g 20) (g 17) (g 18) (k + 1))))]) hx hb dX4_countMoved_51 hl (k := 2) rfl (q_inc1 _) (by decide) rfl (fun ls hl => ?_)
        refine lv_goto (tgt := 4) hx hb dX4_countMoved_54 (by decide) ?_
        exact ih4 (k + 1) (by omega) (by omega) _ _ _ hP hD hS (lv_sub hl [1, 2, 0] rfl)
      refine lv_iload_n hx hb dX4_countMoved_4 rfl (lv_at hl 2 rfl) ?_
      refine lv_bipush (v := nI 16) hx hb dX4_countMoved_5 (by decide +kernel) ?_
      refine lv_icmp_ge (tgt := 57) hx hb dX4_countMoved_7 (by decide) (fun c_7 => ?_) (fun c_7 => ?_)
      · have c_7 := nI_le1 (a := 16) (b := k) (by omega) (by omega) c_7
        refine lv_iload_n hx hb dX4_countMoved_57 rfl (lv_at hl 1 rfl) ?_
        exact q_iret hx hb hr hlk (by rw [show k = 16 by omega]) hP hS dX4_countMoved_58
      · have c_7 := nI_le0 (a := 16) (b := k) (by omega) (by omega) c_7
        refine lv_aload_n hx hb dX4_countMoved_10 rfl (lv_at hl 0 rfl) ?_
        refine q_get hx hb hT hown hK hP kw_X4 0 rfl rfl 7 (by decide) kf_X4_38 rfl (v := .ref (ad 19)) rfl dX4_countMoved_11 ?_
        refine lv_iload_n hx hb dX4_countMoved_14 rfl (lv_at hl 2 rfl) ?_
        refine q_callI (As := [.int (nI k)]) (r := g 19 k) (wc := rowW cA (ad 19) (ad 49) 16 (g 19)) (w1 := rowW cA (ad 19) (ad 49) 16 (g 19)) (ws1 := yrW cA ad g z) hx hb hml hown hT hK hP hD hS hA (c_X3_atN l D cA (ad 19) (ad 49) 16 (g 19) k (by omega) (by omega)) k_X3_at kl_X4_54 (q0 := 0) rfl rfl rfl [15, 16] rfl rfl rfl rfl hl rfl rfl (Nat.le_of_ble_eq_true rfl) ⟨⟨rfl, rfl⟩, Nat.le_of_ble_eq_true rfl, Nat.le_of_ble_eq_true rfl⟩ ⟨Nat.zero_le _, Nat.zero_le _⟩ dX4_countMoved_15 (fun H locs hP hD hS => ?_)
        refine lv_aload_n hx hb dX4_countMoved_18 rfl (lv_at hl 0 rfl) ?_
        refine q_get hx hb hT hown hK hP kw_X4 0 rfl rfl 5 (by decide) kf_X4_32 rfl (v := .ref (ad 17)) rfl dX4_countMoved_19 ?_
        refine lv_iload_n hx hb dX4_countMoved_22 rfl (lv_at hl 2 rfl) ?_
        refine q_callI (As := [.int (nI k)]) (r := g 17 k) (wc := rowW cA (ad 17) (ad 47) 16 (g 17)) (w1 := rowW cA (ad 17) (ad 47) 16 (g 17)) (ws1 := yrW cA ad g z) hx hb hml hown hT hK hP hD hS hA (c_X3_atN l D cA (ad 17) (ad 47) 16 (g 17) k (by omega) (by omega)) k_X3_at kl_X4_54 (q0 := 0) rfl rfl rfl [11, 12] rfl rfl rfl rfl hl rfl rfl (Nat.le_of_ble_eq_true rfl) ⟨⟨rfl, rfl⟩, Nat.le_of_ble_eq_true rfl, Nat.le_of_ble_eq_true rfl⟩ ⟨Nat.zero_le _, Nat.zero_le _⟩ dX4_countMoved_23 (fun H locs hP hD hS => ?_)
        refine lv_icmp_ne (tgt := 48) hx hb dX4_countMoved_26 (by decide) (fun c_26 => ?_) (fun c_26 => ?_)
        · refine lv_iinc (v := nI ((mvd (g 19) (g 20) (g 17) (g 18) k) + 1)) (lv' := [(1, .int (nI ((mvd (g 19) (g 20) (g 17) (g 18) k) + 1))), (0, .ref (ad 71)), (2, .int (nI k))]) hx hb dX4_countMoved_48 hl (k := 1) rfl (q_inc1 _) (by decide) rfl (fun ls hl => ?_)
          have e9_0 : (nI ((mvd (g 19) (g 20) (g 17) (g 18) k) + 1)) = (nI (mvd (g 19) (g 20) (g 17) (g 18) (k + 1))) := by first | with_reducible rfl | (first | rw [mvd_s c_26 c_45] | rw [mvd_n (fun h => c_26 h.1)] | rw [mvd_n (fun h => c_45 h.2)])
          have hl9 : lv_has ls 3 [(0, .ref (ad 71)), (1, .int (nI (mvd (g 19) (g 20) (g 17) (g 18) (k + 1)))), (2, .int (nI k))] := lv_cast (l := [(0, .ref (ad 71)), (1, .int (nI ((mvd (g 19) (g 20) (g 17) (g 18) k) + 1))), (2, .int (nI k))]) (lv_sub hl [1, 0, 2] rfl) (congrArg (fun v9 : Int32 => ([(0, .ref (ad 71)), (1, .int v9), (2, .int (nI k))] : List (Nat × Value))) e9_0)
          exact zqJ51  (by omega) _ _ _ hP hD hS hl9
        · refine lv_aload_n hx hb dX4_countMoved_29 rfl (lv_at hl 0 rfl) ?_
          refine q_get hx hb hT hown hK hP kw_X4 0 rfl rfl 8 (by decide) kf_X4_41 rfl (v := .ref (ad 20)) rfl dX4_countMoved_30 ?_
          refine lv_iload_n hx hb dX4_countMoved_33 rfl (lv_at hl 2 rfl) ?_
          refine q_callI (As := [.int (nI k)]) (r := g 20 k) (wc := rowW cA (ad 20) (ad 50) 16 (g 20)) (w1 := rowW cA (ad 20) (ad 50) 16 (g 20)) (ws1 := yrW cA ad g z) hx hb hml hown hT hK hP hD hS hA (c_X3_atN l D cA (ad 20) (ad 50) 16 (g 20) k (by omega) (by omega)) k_X3_at kl_X4_54 (q0 := 0) rfl rfl rfl [17, 18] rfl rfl rfl rfl hl rfl rfl (Nat.le_of_ble_eq_true rfl) ⟨⟨rfl, rfl⟩, Nat.le_of_ble_eq_true rfl, Nat.le_of_ble_eq_true rfl⟩ ⟨Nat.zero_le _, Nat.zero_le _⟩ dX4_countMoved_34 (fun H locs hP hD hS => ?_)
          refine lv_aload_n hx hb dX4_countMoved_37 rfl (lv_at hl 0 rfl) ?_
          refine q_get hx hb hT hown hK hP kw_X4 0 rfl rfl 6 (by decide) kf_X4_35 rfl (v := .ref (ad 18)) rfl dX4_countMoved_38 ?_
          refine lv_iload_n hx hb dX4_countMoved_41 rfl (lv_at hl 2 rfl) ?_
          refine q_callI (As := [.int (nI k)]) (r := g 18 k) (wc := rowW cA (ad 18) (ad 48) 16 (g 18)) (w1 := rowW cA (ad 18) (ad 48) 16 (g 18)) (ws1 := yrW cA ad g z) hx hb hml hown hT hK hP hD hS hA (c_X3_atN l D cA (ad 18) (ad 48) 16 (g 18) k (by omega) (by omega)) k_X3_at kl_X4_54 (q0 := 0) rfl rfl rfl [13, 14] rfl rfl rfl rfl hl rfl rfl (Nat.le_of_ble_eq_true rfl) ⟨⟨rfl, rfl⟩, Nat.le_of_ble_eq_true rfl, Nat.le_of_ble_eq_true rfl⟩ ⟨Nat.zero_le _, Nat.zero_le _⟩ dX4_countMoved_42 (fun H locs hP hD hS => ?_)
          refine lv_icmp_eq (tgt := 51) hx hb dX4_countMoved_45 (by decide) (fun c_45 => ?_) (fun c_45 => ?_)
          · have e9_0 : (nI (mvd (g 19) (g 20) (g 17) (g 18) k)) = (nI (mvd (g 19) (g 20) (g 17) (g 18) (k + 1))) := by first | with_reducible rfl | (first | rw [mvd_s c_26 c_45] | rw [mvd_n (fun h => c_26 h.1)] | rw [mvd_n (fun h => c_45 h.2)])
            have hl9 : lv_has ls 3 [(0, .ref (ad 71)), (1, .int (nI (mvd (g 19) (g 20) (g 17) (g 18) (k + 1)))), (2, .int (nI k))] := lv_cast (l := [(0, .ref (ad 71)), (1, .int (nI (mvd (g 19) (g 20) (g 17) (g 18) k))), (2, .int (nI k))]) (lv_sub hl [0, 1, 2] rfl) (congrArg (fun v9 : Int32 => ([(0, .ref (ad 71)), (1, .int v9), (2, .int (nI k))] : List (Nat × Value))) e9_0)
            exact zqJ51  (by omega) _ _ _ hP hD hS hl9
          · refine lv_iinc (v := nI ((mvd (g 19) (g 20) (g 17) (g 18) k) + 1)) (lv' := [(1, .int (nI ((mvd (g 19) (g 20) (g 17) (g 18) k) + 1))), (0, .ref (ad 71)), (2, .int (nI k))]) hx hb dX4_countMoved_48 hl (k := 1) rfl (q_inc1 _) (by decide) rfl (fun ls hl => ?_)
            have e9_0 : (nI ((mvd (g 19) (g 20) (g 17) (g 18) k) + 1)) = (nI (mvd (g 19) (g 20) (g 17) (g 18) (k + 1))) := by first | with_reducible rfl | (first | rw [mvd_s c_26 c_45] | rw [mvd_n (fun h => c_26 h.1)] | rw [mvd_n (fun h => c_45 h.2)])
            have hl9 : lv_has ls 3 [(0, .ref (ad 71)), (1, .int (nI (mvd (g 19) (g 20) (g 17) (g 18) (k + 1)))), (2, .int (nI k))] := lv_cast (l := [(0, .ref (ad 71)), (1, .int (nI ((mvd (g 19) (g 20) (g 17) (g 18) k) + 1))), (2, .int (nI k))]) (lv_sub hl [1, 0, 2] rfl) (congrArg (fun v9 : Int32 => ([(0, .ref (ad 71)), (1, .int v9), (2, .int (nI k))] : List (Nat × Value))) e9_0)
            exact zqJ51  (by omega) _ _ _ hP hD hS hl9
  refine lv_iconst (v := nI 0) hx hb dX4_countMoved_0 (by decide +kernel) ?_
  refine lv_istore_n (lv' := [(1, .int (nI 0)), (0, .ref (ad 71))]) hx hb dX4_countMoved_1 rfl hl (by decide) rfl (fun ls hl => ?_)
  refine lv_iconst (v := nI 0) hx hb dX4_countMoved_2 (by decide +kernel) ?_
  refine lv_istore_n (lv' := [(2, .int (nI 0)), (1, .int (nI 0)), (0, .ref (ad 71))]) hx hb dX4_countMoved_3 rfl hl (by decide) rfl (fun ls hl => ?_)
  have e9_0 : (nI 0) = (nI (mvd (g 19) (g 20) (g 17) (g 18) 0)) := by first | with_reducible rfl | (rfl)
  have hl9 : lv_has ls 3 [(0, .ref (ad 71)), (1, .int (nI (mvd (g 19) (g 20) (g 17) (g 18) 0))), (2, .int (nI 0))] := lv_cast (l := [(0, .ref (ad 71)), (1, .int (nI 0)), (2, .int (nI 0))]) (lv_sub hl [2, 1, 0] rfl) (congrArg (fun v9 : Int32 => ([(0, .ref (ad 71)), (1, .int v9), (2, .int (nI 0))] : List (Nat × Value))) e9_0)
  exact zqL4 (16 + 1) 0 (by omega) (by omega) _ _ _ hP hD hS hl9
abbrev rm_X4_tryDating : Room := { frames := 3, cells := 0, slots := 0, locals := 69 }
set_option maxRecDepth 100000 in
set_option maxHeartbeats 4000000 in
theorem c_X4_tryDating (l : Launch) (D : va_G) (cA : ClassId) (ad : Nat → Nat) (g : Nat → Nat → Int32) (z : Nat → Nat)  (hE : ∀ k, k < (z 1) → q_r ((g 14) k) 16 ∧ q_r ((g 15) k) 16) (ht : (z 1) ≤ 40) : q_CI l yX4_tryDating [Cond.code yX4_tryDating cX4_tryDating 1 (some .int)] rm_X4_tryDating D cA [.ref (ad 71)] (yrW cA ad g z) (vd (dOK (g 14) (g 15) (g 16) (g 12) (g 13) (z 1)) (dMV (g 14) (g 15) (g 16) (g 12) (g 13) (g 17) (g 18) (z 1))) (yrW cA ad (gs (gs g 19 (itF (g 14) (g 15) (g 16) (g 12) (z 1) 16)) 20 (itL (g 14) (g 15) (g 16) (g 13) (z 1) 16)) z) := by
  refine q_startI RX4 (by decide +kernel) rfl (Nat.le_of_ble_eq_true rfl) ?_
  intro p e s m below meth c A args H locs ls hx hb hr hml hown hT hlk hP hK hD hA hS hl
  have hl : lv_has ls 1 [(0, .ref (ad 71))] := hl
  refine lv_aload_n hx hb dX4_tryDating_0 rfl (lv_at hl 0 rfl) ?_
  refine q_get hx hb hT hown hK hP kw_X4 0 rfl rfl 7 (by decide) kf_X4_38 rfl (v := .ref (ad 19)) rfl dX4_tryDating_1 ?_
  refine lv_aload_n hx hb dX4_tryDating_4 rfl (lv_at hl 0 rfl) ?_
  refine q_get hx hb hT hown hK hP kw_X4 0 rfl rfl 0 (by decide) kf_X4_14 rfl (v := .ref (ad 12)) rfl dX4_tryDating_5 ?_
  refine q_callV (As := [.ref (ad 12)]) (wc := row2W cA (ad 19) (ad 49) (ad 12) (ad 42) 16 (g 19) (g 12)) (w1 := row2W cA (ad 19) (ad 49) (ad 12) (ad 42) 16 (g 12) (g 12)) (ws1 := yrW cA ad (gs g 19 (g 12)) z) hx hb hml hown hT hK hP hD hS hA (c_X3_copyFrom l D cA (ad 19) (ad 49) (ad 12) (ad 42) 16 (g 19) (g 12) (by omega)) k_X3_copyFrom kl_X4_82 (q0 := 0) rfl rfl rfl [15, 16, 1, 2] rfl rfl rfl rfl hl rfl rfl (Nat.le_of_ble_eq_true rfl) ⟨⟨rfl, rfl⟩, Nat.le_of_ble_eq_true rfl, Nat.le_of_ble_eq_true rfl⟩ ⟨Nat.zero_le _, Nat.zero_le _⟩ dX4_tryDating_8 (fun H locs hP hD hS => ?_)
  refine lv_aload_n hx hb dX4_tryDating_11 rfl (lv_at hl 0 rfl) ?_
  refine q_get hx hb hT hown hK hP kw_X4 0 rfl rfl 8 (by decide) kf_X4_41 rfl (v := .ref (ad 20)) rfl dX4_tryDating_12 ?_
  refine lv_aload_n hx hb dX4_tryDating_15 rfl (lv_at hl 0 rfl) ?_
  refine q_get hx hb hT hown hK hP kw_X4 0 rfl rfl 1 (by decide) kf_X4_20 rfl (v := .ref (ad 13)) rfl dX4_tryDating_16 ?_
  refine q_callV (As := [.ref (ad 13)]) (wc := row2W cA (ad 20) (ad 50) (ad 13) (ad 43) 16 (g 20) (g 13)) (w1 := row2W cA (ad 20) (ad 50) (ad 13) (ad 43) 16 (g 13) (g 13)) (ws1 := yrW cA ad (gs (gs g 19 (g 12)) 20 (g 13)) z) hx hb hml hown hT hK hP hD hS hA (c_X3_copyFrom l D cA (ad 20) (ad 50) (ad 13) (ad 43) 16 (g 20) (g 13) (by omega)) k_X3_copyFrom kl_X4_82 (q0 := 0) rfl rfl rfl [17, 18, 3, 4] rfl rfl rfl rfl hl rfl rfl (Nat.le_of_ble_eq_true rfl) ⟨⟨rfl, rfl⟩, Nat.le_of_ble_eq_true rfl, Nat.le_of_ble_eq_true rfl⟩ ⟨Nat.zero_le _, Nat.zero_le _⟩ dX4_tryDating_19 (fun H locs hP hD hS => ?_)
  refine lv_aload_n hx hb dX4_tryDating_22 rfl (lv_at hl 0 rfl) ?_
  refine q_callIW (As := []) (r := q_b (itR (g 14) (g 15) (g 16) (g 12) (g 13) (z 1))) (w1 := yrW cA ad (gs (gs g 19 (itF (g 14) (g 15) (g 16) (g 12) (z 1) 16)) 20 (itL (g 14) (g 15) (g 16) (g 13) (z 1) 16)) z) hx hb hml hown hT hK hP hD hS hA (c_X4_comesToRest l D cA ad (gs (gs g 19 (g 12)) 20 (g 13)) z hE (show (z 1) ≤ 40 by omega)) k_X4_comesToRest kl_X4_86 (q0 := 0) rfl rfl rfl ((yrW_adr _ _ _ _).trans (yrW_adr _ _ _ _).symm) hl rfl rfl (Nat.le_of_ble_eq_true rfl) ⟨⟨rfl, rfl⟩, Nat.le_of_ble_eq_true rfl, Nat.le_of_ble_eq_true rfl⟩ ⟨Nat.zero_le _, Nat.zero_le _⟩ dX4_tryDating_23 (fun H locs hP hD hS => ?_)
  obtain ⟨nF23_19, enF23_19⟩ : ∃ y : Nat → Int32, y = itF (g 14) (g 15) (g 16) (g 12) (z 1) 16 := ⟨_, rfl⟩
  have hP : va_P D vwCl (yrW cA ad (gs (gs g 19 nF23_19) 20 (itL (g 14) (g 15) (g 16) (g 13) (z 1) 16)) z) H := by rw [enF23_19]; exact hP
  have hD : va_D A (yrW cA ad (gs (gs g 19 nF23_19) 20 (itL (g 14) (g 15) (g 16) (g 13) (z 1) 16)) z) := by rw [enF23_19]; exact hD
  obtain ⟨nF23_20, enF23_20⟩ : ∃ y : Nat → Int32, y = itL (g 14) (g 15) (g 16) (g 13) (z 1) 16 := ⟨_, rfl⟩
  have hP : va_P D vwCl (yrW cA ad (gs (gs g 19 nF23_19) 20 nF23_20) z) H := by rw [enF23_20]; exact hP
  have hD : va_D A (yrW cA ad (gs (gs g 19 nF23_19) 20 nF23_20) z) := by rw [enF23_20]; exact hD
  refine lv_if_eq (tgt := 43) hx hb dX4_tryDating_26 (by decide) (fun c_26 => ?_) (fun c_26 => ?_)
  · have c_26 := q_b0e c_26
    refine lv_iconst (v := (-1)) hx hb dX4_tryDating_43 (by decide +kernel) ?_
    rw [enF23_20] at hP hD
    rw [enF23_19] at hP hD
    exact q_iret hx hb hr hlk (by first | exact vd_f (dOK_f1 c_26) | (rw [enF23_19, enF23_20] at c_33; first | exact vd_t (dOK_t c_26 c_33) | exact vd_f (dOK_f2 c_33))) hP hS dX4_tryDating_44
  · have c_26 := q_b0n c_26
    refine lv_aload_n hx hb dX4_tryDating_29 rfl (lv_at hl 0 rfl) ?_
    refine q_callIW (As := []) (r := q_b (leB nF23_19 nF23_20 16)) (w1 := yrW cA ad (gs (gs g 19 nF23_19) 20 nF23_20) z) hx hb hml hown hT hK hP hD hS hA (c_X4_leavesYears l D cA ad (gs (gs g 19 nF23_19) 20 nF23_20) z) k_X4_leavesYears kl_X4_90 (q0 := 0) rfl rfl rfl ((yrW_adr _ _ _ _).trans (yrW_adr _ _ _ _).symm) hl rfl rfl (Nat.le_of_ble_eq_true rfl) ⟨⟨rfl, rfl⟩, Nat.le_of_ble_eq_true rfl, Nat.le_of_ble_eq_true rfl⟩ ⟨Nat.zero_le _, Nat.zero_le _⟩ dX4_tryDating_30 (fun H locs hP hD hS => ?_)
    refine lv_if_eq (tgt := 43) hx hb dX4_tryDating_33 (by decide) (fun c_33 => ?_) (fun c_33 => ?_)
    · have c_33 := q_b0e c_33
      refine lv_iconst (v := (-1)) hx hb dX4_tryDating_43 (by decide +kernel) ?_
      rw [enF23_20] at hP hD
      rw [enF23_19] at hP hD
      exact q_iret hx hb hr hlk (by first | exact vd_f (dOK_f1 c_26) | (rw [enF23_19, enF23_20] at c_33; first | exact vd_t (dOK_t c_26 c_33) | exact vd_f (dOK_f2 c_33))) hP hS dX4_tryDating_44
    · have c_33 := q_b0n c_33
      refine lv_aload_n hx hb dX4_tryDating_36 rfl (lv_at hl 0 rfl) ?_
      refine q_callIW (As := []) (r := nI (mvd nF23_19 nF23_20 (g 17) (g 18) 16)) (w1 := yrW cA ad (gs (gs g 19 nF23_19) 20 nF23_20) z) hx hb hml hown hT hK hP hD hS hA (c_X4_countMoved l D cA ad (gs (gs g 19 nF23_19) 20 nF23_20) z) k_X4_countMoved kl_X4_93 (q0 := 0) rfl rfl rfl ((yrW_adr _ _ _ _).trans (yrW_adr _ _ _ _).symm) hl rfl rfl (Nat.le_of_ble_eq_true rfl) ⟨⟨rfl, rfl⟩, Nat.le_of_ble_eq_true rfl, Nat.le_of_ble_eq_true rfl⟩ ⟨Nat.zero_le _, Nat.zero_le _⟩ dX4_tryDating_37 (fun H locs hP hD hS => ?_)
      refine lv_goto (tgt := 44) hx hb dX4_tryDating_40 (by decide) ?_
      rw [enF23_20] at hP hD
      rw [enF23_20]
      rw [enF23_19] at hP hD
      rw [enF23_19]
      exact q_iret hx hb hr hlk (by first | exact vd_f (dOK_f1 c_26) | (rw [enF23_19, enF23_20] at c_33; first | exact vd_t (dOK_t c_26 c_33) | exact vd_f (dOK_f2 c_33))) hP hS dX4_tryDating_44
abbrev rm_X4_keepTried : Room := { frames := 2, cells := 0, slots := 0, locals := 43 }
set_option maxRecDepth 100000 in
set_option maxHeartbeats 4000000 in
theorem c_X4_keepTried (l : Launch) (D : va_G) (cA : ClassId) (ad : Nat → Nat) (g : Nat → Nat → Int32) (z : Nat → Nat)   : q_CV l yX4_keepTried [Cond.code yX4_keepTried cX4_keepTried 1 none] rm_X4_keepTried D cA [.ref (ad 71)] (yrW cA ad g z) (yrW cA ad (gs (gs g 17 (g 19)) 18 (g 20)) z) := by
  refine q_startV RX4 (by decide +kernel) rfl (Nat.le_of_ble_eq_true rfl) ?_
  intro p e s m below meth c A args H locs ls hx hb hr hml hown hT hlk hP hK hD hA hS hl
  have hl : lv_has ls 1 [(0, .ref (ad 71))] := hl
  refine lv_aload_n hx hb dX4_keepTried_0 rfl (lv_at hl 0 rfl) ?_
  refine q_get hx hb hT hown hK hP kw_X4 0 rfl rfl 5 (by decide) kf_X4_32 rfl (v := .ref (ad 17)) rfl dX4_keepTried_1 ?_
  refine lv_aload_n hx hb dX4_keepTried_4 rfl (lv_at hl 0 rfl) ?_
  refine q_get hx hb hT hown hK hP kw_X4 0 rfl rfl 7 (by decide) kf_X4_38 rfl (v := .ref (ad 19)) rfl dX4_keepTried_5 ?_
  refine q_callV (As := [.ref (ad 19)]) (wc := row2W cA (ad 17) (ad 47) (ad 19) (ad 49) 16 (g 17) (g 19)) (w1 := row2W cA (ad 17) (ad 47) (ad 19) (ad 49) 16 (g 19) (g 19)) (ws1 := yrW cA ad (gs g 17 (g 19)) z) hx hb hml hown hT hK hP hD hS hA (c_X3_copyFrom l D cA (ad 17) (ad 47) (ad 19) (ad 49) 16 (g 17) (g 19) (by omega)) k_X3_copyFrom kl_X4_82 (q0 := 0) rfl rfl rfl [11, 12, 15, 16] rfl rfl rfl rfl hl rfl rfl (Nat.le_of_ble_eq_true rfl) ⟨⟨rfl, rfl⟩, Nat.le_of_ble_eq_true rfl, Nat.le_of_ble_eq_true rfl⟩ ⟨Nat.zero_le _, Nat.zero_le _⟩ dX4_keepTried_8 (fun H locs hP hD hS => ?_)
  refine lv_aload_n hx hb dX4_keepTried_11 rfl (lv_at hl 0 rfl) ?_
  refine q_get hx hb hT hown hK hP kw_X4 0 rfl rfl 6 (by decide) kf_X4_35 rfl (v := .ref (ad 18)) rfl dX4_keepTried_12 ?_
  refine lv_aload_n hx hb dX4_keepTried_15 rfl (lv_at hl 0 rfl) ?_
  refine q_get hx hb hT hown hK hP kw_X4 0 rfl rfl 8 (by decide) kf_X4_41 rfl (v := .ref (ad 20)) rfl dX4_keepTried_16 ?_
  refine q_callV (As := [.ref (ad 20)]) (wc := row2W cA (ad 18) (ad 48) (ad 20) (ad 50) 16 (g 18) (g 20)) (w1 := row2W cA (ad 18) (ad 48) (ad 20) (ad 50) 16 (g 20) (g 20)) (ws1 := yrW cA ad (gs (gs g 17 (g 19)) 18 (g 20)) z) hx hb hml hown hT hK hP hD hS hA (c_X3_copyFrom l D cA (ad 18) (ad 48) (ad 20) (ad 50) 16 (g 18) (g 20) (by omega)) k_X3_copyFrom kl_X4_82 (q0 := 0) rfl rfl rfl [13, 14, 17, 18] rfl rfl rfl rfl hl rfl rfl (Nat.le_of_ble_eq_true rfl) ⟨⟨rfl, rfl⟩, Nat.le_of_ble_eq_true rfl, Nat.le_of_ble_eq_true rfl⟩ ⟨Nat.zero_le _, Nat.zero_le _⟩ dX4_keepTried_19 (fun H locs hP hD hS => ?_)
  exact q_vret hx hb hr hlk hP hS dX4_keepTried_22
