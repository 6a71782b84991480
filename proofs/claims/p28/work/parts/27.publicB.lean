abbrev rm_X5_wouldMovex3 : Room := { frames := 8, cells := 1, slots := 6, locals := 125 }
set_option maxRecDepth 100000 in
set_option maxHeartbeats 4000000 in
theorem c_X5_wouldMovex3 (l : Launch) (htr : l.stackTraces = false) (D : va_G) (cA : ClassId) (ad : Nat → Nat) (g : Nat → Nat → Int32) (z : Nat → Nat) (w : Int32) (lo : Int32) (hi : Int32) (hw : q_r w (z 0)) (hc : (z 0) ≤ 16) (hlo : ¬ lo < nI 0 ∧ lo ≤ nI 999) (hhi : ¬ (¬ hi < lo ∧ hi ≤ nI 999)) : q_CX l yX5_wouldMove [Cond.code yX5_wouldMove cX5_wouldMove 4 (some .int)] rm_X5_wouldMovex3 D cA [.ref (ad 70), .int w, .int lo, .int hi] (rlW cA ad g z) "java/lang/IllegalArgumentException" (rlW cA ad g z) := by
  refine q_startX RX5 (by decide +kernel) rfl (Nat.le_of_ble_eq_true rfl) ?_
  intro p e s m below meth c A args H locs ls hx hb hr hml hown hT hlk hP hK hD hA hS hl hout hX hZ
  have hl : lv_has ls 4 [(0, .ref (ad 70)), (1, .int w), (2, .int lo), (3, .int hi)] := hl
  refine lv_aload_n hx hb dX5_wouldMove_0 rfl (lv_at hl 0 rfl) ?_
  refine lv_iload_n hx hb dX5_wouldMove_1 rfl (lv_at hl 1 rfl) ?_
  refine q_callVW (As := [.int w]) (w1 := rlW cA ad g z) hx hb hml hown hT hK hP hD hS hA (c_X5_needMention l D cA ad g z w hw (show (z 0) ≤ 16 by omega)) k_X5_needMention kl_X5_131 (q0 := 0) rfl rfl rfl ((rlW_adr _ _ _ _).trans (rlW_adr _ _ _ _).symm) hl rfl rfl (Nat.le_of_ble_eq_true rfl) ⟨⟨rfl, rfl⟩, Nat.le_of_ble_eq_true rfl, Nat.le_of_ble_eq_true rfl⟩ ⟨Nat.zero_le _, Nat.zero_le _⟩ dX5_wouldMove_2 (fun H locs hP hD hS => ?_)
  refine lv_iload_n hx hb dX5_wouldMove_5 rfl (lv_at hl 2 rfl) ?_
  refine lv_iload_n hx hb dX5_wouldMove_6 rfl (lv_at hl 3 rfl) ?_
  exact q_callXS (As := [.int lo, .int hi]) hx hb hml hown hT hK hP hD hS hA hout hlk hX hZ (c_X5_needYearsx2 l htr D cA lo hi hlo hhi) k_X5_needYears kl_X5_134 hl rfl rfl (Nat.le_of_ble_eq_true rfl) ⟨⟨rfl, rfl⟩, Nat.le_of_ble_eq_true rfl, Nat.le_of_ble_eq_true rfl⟩ ⟨Nat.le_of_ble_eq_true rfl, Nat.le_of_ble_eq_true rfl⟩ dX5_wouldMove_7
abbrev rm_X5_year : Room := { frames := 2, cells := 0, slots := 0, locals := 42 }
set_option maxRecDepth 100000 in
set_option maxHeartbeats 4000000 in
theorem c_X5_year (l : Launch) (D : va_G) (cA : ClassId) (ad : Nat → Nat) (g : Nat → Nat → Int32) (z : Nat → Nat) (k : Nat) (is : Bool) (hk : k < (z 0)) (hc : (z 0) ≤ 16) : q_CI l yX5_year [Cond.code yX5_year cX5_year 3 (some .int)] rm_X5_year D cA [.ref (ad 70), .int (nI k), .int (q_b is)] (rlW cA ad g z) (bif is then (g 18) k else (g 17) k) (rlW cA ad g z) := by
  refine q_startI RX5 (by decide +kernel) rfl (Nat.le_of_ble_eq_true rfl) ?_
  intro p e s m below meth c A args H locs ls hx hb hr hml hown hT hlk hP hK hD hA hS hl
  have hl : lv_has ls 3 [(0, .ref (ad 70)), (1, .int (nI k)), (2, .int (q_b is))] := hl
  have zqJ28 : ∀ (H : Heap) (locs : List Loc) (ls : Array Slot), va_P D vwCl (rlW cA ad g z) H → va_D A (rlW cA ad g z) → va_S A s.heap H locs → lv_has ls 3 [(0, .ref (ad 70)), (1, .int (nI k)), (2, .int (q_b is))] → W p l e rm_X5_year s m args below meth c H locs 0 0 (q_GI D (bif is then (g 18) k else (g 17) k) (rlW cA ad g z) A below args s) (F0 m 28 ls [.int (bif is then (g 18) k else (g 17) k)]) := by
    intro   H locs ls hP hD hS hl
    exact q_iret hx hb hr hlk (by rfl) hP hS dX5_year_28
  refine lv_aload_n hx hb dX5_year_0 rfl (lv_at hl 0 rfl) ?_
  refine lv_iload_n hx hb dX5_year_1 rfl (lv_at hl 1 rfl) ?_
  refine q_callVW (As := [.int (nI k)]) (w1 := rlW cA ad g z) hx hb hml hown hT hK hP hD hS hA (c_X5_needMention l D cA ad g z (nI k) (q_r_nI (by omega)) (show (z 0) ≤ 16 by omega)) k_X5_needMention kl_X5_131 (q0 := 0) rfl rfl rfl ((rlW_adr _ _ _ _).trans (rlW_adr _ _ _ _).symm) hl rfl rfl (Nat.le_of_ble_eq_true rfl) ⟨⟨rfl, rfl⟩, Nat.le_of_ble_eq_true rfl, Nat.le_of_ble_eq_true rfl⟩ ⟨Nat.zero_le _, Nat.zero_le _⟩ dX5_year_2 (fun H locs hP hD hS => ?_)
  refine lv_iload_n hx hb dX5_year_5 rfl (lv_at hl 2 rfl) ?_
  refine lv_if_eq (tgt := 20) hx hb dX5_year_6 (by decide) (fun c_6 => ?_) (fun c_6 => ?_)
  · have c_6 := q_b0e c_6
    refine lv_aload_n hx hb dX5_year_20 rfl (lv_at hl 0 rfl) ?_
    refine q_get hx hb hT hown hK hP kw_X5 0 rfl rfl 10 (by decide) kf_X5_52 rfl (v := .ref (ad 71)) rfl dX5_year_21 ?_
    refine lv_iload_n hx hb dX5_year_24 rfl (lv_at hl 1 rfl) ?_
    refine q_callIS (As := [.int (nI k)]) (r := (g 17) k) (wc := yrW cA ad g z) (w1 := yrW cA ad g z) (ws1 := rlW cA ad g z) hx hb hml hown hT hK hP hD hS hA (c_X4_firstOf l D cA ad g z k (show k < 16 by omega)) k_X4_firstOf kl_X5_146 (q0 := 0) rfl rfl rfl (rl_a cA ad g z) (psW cA ad g z ++ gpW cA ad g z) rfl (rl_y rfl rfl rfl) ((yrW_adr _ _ _ _).trans (yrW_adr _ _ _ _).symm) hl rfl rfl (Nat.le_of_ble_eq_true rfl) ⟨⟨rfl, rfl⟩, Nat.le_of_ble_eq_true rfl, Nat.le_of_ble_eq_true rfl⟩ ⟨Nat.zero_le _, Nat.zero_le _⟩ dX5_year_25 (fun H locs hP hD hS => ?_)
    refine q_top (y := (bif is then (g 18) k else (g 17) k)) (by first | exact q_cf c_6 | exact q_ct c_6) ?_
    exact zqJ28   _ _ _ hP hD hS (lv_sub hl [0, 1, 2] rfl)
  · have c_6 := q_b0n c_6
    refine lv_aload_n hx hb dX5_year_9 rfl (lv_at hl 0 rfl) ?_
    refine q_get hx hb hT hown hK hP kw_X5 0 rfl rfl 10 (by decide) kf_X5_52 rfl (v := .ref (ad 71)) rfl dX5_year_10 ?_
    refine lv_iload_n hx hb dX5_year_13 rfl (lv_at hl 1 rfl) ?_
    refine q_callIS (As := [.int (nI k)]) (r := (g 18) k) (wc := yrW cA ad g z) (w1 := yrW cA ad g z) (ws1 := rlW cA ad g z) hx hb hml hown hT hK hP hD hS hA (c_X4_lastOf l D cA ad g z k (show k < 16 by omega)) k_X4_lastOf kl_X5_143 (q0 := 0) rfl rfl rfl (rl_a cA ad g z) (psW cA ad g z ++ gpW cA ad g z) rfl (rl_y rfl rfl rfl) ((yrW_adr _ _ _ _).trans (yrW_adr _ _ _ _).symm) hl rfl rfl (Nat.le_of_ble_eq_true rfl) ⟨⟨rfl, rfl⟩, Nat.le_of_ble_eq_true rfl, Nat.le_of_ble_eq_true rfl⟩ ⟨Nat.zero_le _, Nat.zero_le _⟩ dX5_year_14 (fun H locs hP hD hS => ?_)
    refine lv_goto (tgt := 28) hx hb dX5_year_17 (by decide) ?_
    refine q_top (y := (bif is then (g 18) k else (g 17) k)) (by first | exact q_cf c_6 | exact q_ct c_6) ?_
    exact zqJ28   _ _ _ hP hD hS (lv_sub hl [0, 1, 2] rfl)
abbrev rm_X5_yearx : Room := { frames := 7, cells := 1, slots := 6, locals := 103 }
set_option maxRecDepth 100000 in
set_option maxHeartbeats 4000000 in
theorem c_X5_yearx (l : Launch) (htr : l.stackTraces = false) (D : va_G) (cA : ClassId) (ad : Nat → Nat) (g : Nat → Nat → Int32) (z : Nat → Nat) (w : Int32) (is : Bool) (hw : ¬ q_r w (z 0)) (hc : (z 0) ≤ 16) : q_CX l yX5_year [Cond.code yX5_year cX5_year 3 (some .int)] rm_X5_yearx D cA [.ref (ad 70), .int w, .int (q_b is)] (rlW cA ad g z) "java/lang/IndexOutOfBoundsException" (rlW cA ad g z) := by
  refine q_startX RX5 (by decide +kernel) rfl (Nat.le_of_ble_eq_true rfl) ?_
  intro p e s m below meth c A args H locs ls hx hb hr hml hown hT hlk hP hK hD hA hS hl hout hX hZ
  have hl : lv_has ls 3 [(0, .ref (ad 70)), (1, .int w), (2, .int (q_b is))] := hl
  refine lv_aload_n hx hb dX5_year_0 rfl (lv_at hl 0 rfl) ?_
  refine lv_iload_n hx hb dX5_year_1 rfl (lv_at hl 1 rfl) ?_
  exact q_callXW (As := [.int w]) hx hb hml hown hT hK hP hD hS hA hout hlk hX hZ (c_X5_needMentionx l htr D cA ad g z w hw (show (z 0) ≤ 16 by omega)) k_X5_needMention kl_X5_131 (q0 := 0) rfl rfl rfl hl rfl rfl (Nat.le_of_ble_eq_true rfl) ⟨⟨rfl, rfl⟩, Nat.le_of_ble_eq_true rfl, Nat.le_of_ble_eq_true rfl⟩ ⟨Nat.le_of_ble_eq_true rfl, Nat.le_of_ble_eq_true rfl⟩ dX5_year_2
abbrev rm_X5_yearAnew : Room := { frames := 6, cells := 0, slots := 0, locals := 137 }
set_option maxRecDepth 100000 in
set_option maxHeartbeats 4000000 in
theorem c_X5_yearAnew (l : Launch) (D : va_G) (cA : ClassId) (ad : Nat → Nat) (g : Nat → Nat → Int32) (z : Nat → Nat) (k : Nat) (is : Bool) (hk : k < (z 0)) (hc : (z 0) ≤ 16) (hE : ∀ k, k < (z 1) → q_r ((g 14) k) 16 ∧ q_r ((g 15) k) 16) (ht : (z 1) ≤ 40) : q_CI l yX5_yearAnew [Cond.code yX5_yearAnew cX5_yearAnew 3 (some .int)] rm_X5_yearAnew D cA [.ref (ad 70), .int (nI k), .int (q_b is)] (rlW cA ad g z) (bif is then lstW (g 13) (allW (g 14) (g 15) (g 16) (z 1)) k 16 else fstW (g 12) (allW (g 14) (g 15) (g 16) (z 1)) k 16) (rlW cA ad (gs g 21 (allW (g 14) (g 15) (g 16) (z 1))) z) := by
  refine q_startI RX5 (by decide +kernel) rfl (Nat.le_of_ble_eq_true rfl) ?_
  intro p e s m below meth c A args H locs ls hx hb hr hml hown hT hlk hP hK hD hA hS hl
  have hl : lv_has ls 3 [(0, .ref (ad 70)), (1, .int (nI k)), (2, .int (q_b is))] := hl
  have zqJ28 : ∀ (H : Heap) (locs : List Loc) (ls : Array Slot), va_P D vwCl (rlW cA ad (gs g 21 (allW (g 14) (g 15) (g 16) (z 1))) z) H → va_D A (rlW cA ad (gs g 21 (allW (g 14) (g 15) (g 16) (z 1))) z) → va_S A s.heap H locs → lv_has ls 3 [(0, .ref (ad 70)), (1, .int (nI k)), (2, .int (q_b is))] → W p l e rm_X5_yearAnew s m args below meth c H locs 0 0 (q_GI D (bif is then lstW (g 13) (allW (g 14) (g 15) (g 16) (z 1)) k 16 else fstW (g 12) (allW (g 14) (g 15) (g 16) (z 1)) k 16) (rlW cA ad (gs g 21 (allW (g 14) (g 15) (g 16) (z 1))) z) A below args s) (F0 m 28 ls [.int (bif is then lstW (g 13) (allW (g 14) (g 15) (g 16) (z 1)) k 16 else fstW (g 12) (allW (g 14) (g 15) (g 16) (z 1)) k 16)]) := by
    intro   H locs ls hP hD hS hl
    exact q_iret hx hb hr hlk (by rfl) hP hS dX5_yearAnew_28
  refine lv_aload_n hx hb dX5_yearAnew_0 rfl (lv_at hl 0 rfl) ?_
  refine lv_iload_n hx hb dX5_yearAnew_1 rfl (lv_at hl 1 rfl) ?_
  refine q_callVW (As := [.int (nI k)]) (w1 := rlW cA ad g z) hx hb hml hown hT hK hP hD hS hA (c_X5_needMention l D cA ad g z (nI k) (q_r_nI (by omega)) (show (z 0) ≤ 16 by omega)) k_X5_needMention kl_X5_131 (q0 := 0) rfl rfl rfl ((rlW_adr _ _ _ _).trans (rlW_adr _ _ _ _).symm) hl rfl rfl (Nat.le_of_ble_eq_true rfl) ⟨⟨rfl, rfl⟩, Nat.le_of_ble_eq_true rfl, Nat.le_of_ble_eq_true rfl⟩ ⟨Nat.zero_le _, Nat.zero_le _⟩ dX5_yearAnew_2 (fun H locs hP hD hS => ?_)
  refine lv_iload_n hx hb dX5_yearAnew_5 rfl (lv_at hl 2 rfl) ?_
  refine lv_if_eq (tgt := 20) hx hb dX5_yearAnew_6 (by decide) (fun c_6 => ?_) (fun c_6 => ?_)
  · have c_6 := q_b0e c_6
    refine lv_aload_n hx hb dX5_yearAnew_20 rfl (lv_at hl 0 rfl) ?_
    refine q_get hx hb hT hown hK hP kw_X5 0 rfl rfl 10 (by decide) kf_X5_52 rfl (v := .ref (ad 71)) rfl dX5_yearAnew_21 ?_
    refine lv_iload_n hx hb dX5_yearAnew_24 rfl (lv_at hl 1 rfl) ?_
    refine q_callIS (As := [.int (nI k)]) (r := fstW (g 12) (allW (g 14) (g 15) (g 16) (z 1)) k 16) (wc := yrW cA ad g z) (w1 := yrW cA ad (gs g 21 (allW (g 14) (g 15) (g 16) (z 1))) z) (ws1 := rlW cA ad (gs g 21 (allW (g 14) (g 15) (g 16) (z 1))) z) hx hb hml hown hT hK hP hD hS hA (c_X4_firstByWays l D cA ad g z k (show k < 16 by omega) hE (show (z 1) ≤ 40 by omega)) k_X4_firstByWays kl_X5_152 (q0 := 0) rfl rfl rfl (rl_a cA ad g z) (psW cA ad g z ++ gpW cA ad g z) rfl (rl_y rfl rfl rfl) ((yrW_adr _ _ _ _).trans (yrW_adr _ _ _ _).symm) hl rfl rfl (Nat.le_of_ble_eq_true rfl) ⟨⟨rfl, rfl⟩, Nat.le_of_ble_eq_true rfl, Nat.le_of_ble_eq_true rfl⟩ ⟨Nat.zero_le _, Nat.zero_le _⟩ dX5_yearAnew_25 (fun H locs hP hD hS => ?_)
    obtain ⟨nF25_21, enF25_21⟩ : ∃ y : Nat → Int32, y = (allW (g 14) (g 15) (g 16) (z 1)) := ⟨_, rfl⟩
    have hP : va_P D vwCl (rlW cA ad (gs g 21 nF25_21) z) H := by rw [enF25_21]; exact hP
    have hD : va_D A (rlW cA ad (gs g 21 nF25_21) z) := by rw [enF25_21]; exact hD
    rw [enF25_21] at hP hD
    refine q_top (y := (bif is then lstW (g 13) (allW (g 14) (g 15) (g 16) (z 1)) k 16 else fstW (g 12) (allW (g 14) (g 15) (g 16) (z 1)) k 16)) (by exact q_cf c_6) ?_
    exact zqJ28   _ _ _ hP hD hS (lv_sub hl [0, 1, 2] rfl)
  · have c_6 := q_b0n c_6
    refine lv_aload_n hx hb dX5_yearAnew_9 rfl (lv_at hl 0 rfl) ?_
    refine q_get hx hb hT hown hK hP kw_X5 0 rfl rfl 10 (by decide) kf_X5_52 rfl (v := .ref (ad 71)) rfl dX5_yearAnew_10 ?_
    refine lv_iload_n hx hb dX5_yearAnew_13 rfl (lv_at hl 1 rfl) ?_
    refine q_callIS (As := [.int (nI k)]) (r := lstW (g 13) (allW (g 14) (g 15) (g 16) (z 1)) k 16) (wc := yrW cA ad g z) (w1 := yrW cA ad (gs g 21 (allW (g 14) (g 15) (g 16) (z 1))) z) (ws1 := rlW cA ad (gs g 21 (allW (g 14) (g 15) (g 16) (z 1))) z) hx hb hml hown hT hK hP hD hS hA (c_X4_lastByWays l D cA ad g z k (show k < 16 by omega) hE (show (z 1) ≤ 40 by omega)) k_X4_lastByWays kl_X5_149 (q0 := 0) rfl rfl rfl (rl_a cA ad g z) (psW cA ad g z ++ gpW cA ad g z) rfl (rl_y rfl rfl rfl) ((yrW_adr _ _ _ _).trans (yrW_adr _ _ _ _).symm) hl rfl rfl (Nat.le_of_ble_eq_true rfl) ⟨⟨rfl, rfl⟩, Nat.le_of_ble_eq_true rfl, Nat.le_of_ble_eq_true rfl⟩ ⟨Nat.zero_le _, Nat.zero_le _⟩ dX5_yearAnew_14 (fun H locs hP hD hS => ?_)
    obtain ⟨nF14_21, enF14_21⟩ : ∃ y : Nat → Int32, y = (allW (g 14) (g 15) (g 16) (z 1)) := ⟨_, rfl⟩
    have hP : va_P D vwCl (rlW cA ad (gs g 21 nF14_21) z) H := by rw [enF14_21]; exact hP
    have hD : va_D A (rlW cA ad (gs g 21 nF14_21) z) := by rw [enF14_21]; exact hD
    refine lv_goto (tgt := 28) hx hb dX5_yearAnew_17 (by decide) ?_
    rw [enF14_21] at hP hD
    refine q_top (y := (bif is then lstW (g 13) (allW (g 14) (g 15) (g 16) (z 1)) k 16 else fstW (g 12) (allW (g 14) (g 15) (g 16) (z 1)) k 16)) (by exact q_ct c_6) ?_
    exact zqJ28   _ _ _ hP hD hS (lv_sub hl [0, 1, 2] rfl)
abbrev rm_X5_yearAnewx : Room := { frames := 7, cells := 1, slots := 6, locals := 103 }
set_option maxRecDepth 100000 in
set_option maxHeartbeats 4000000 in
theorem c_X5_yearAnewx (l : Launch) (htr : l.stackTraces = false) (D : va_G) (cA : ClassId) (ad : Nat → Nat) (g : Nat → Nat → Int32) (z : Nat → Nat) (w : Int32) (is : Bool) (hw : ¬ q_r w (z 0)) (hc : (z 0) ≤ 16) : q_CX l yX5_yearAnew [Cond.code yX5_yearAnew cX5_yearAnew 3 (some .int)] rm_X5_yearAnewx D cA [.ref (ad 70), .int w, .int (q_b is)] (rlW cA ad g z) "java/lang/IndexOutOfBoundsException" (rlW cA ad g z) := by
  refine q_startX RX5 (by decide +kernel) rfl (Nat.le_of_ble_eq_true rfl) ?_
  intro p e s m below meth c A args H locs ls hx hb hr hml hown hT hlk hP hK hD hA hS hl hout hX hZ
  have hl : lv_has ls 3 [(0, .ref (ad 70)), (1, .int w), (2, .int (q_b is))] := hl
  refine lv_aload_n hx hb dX5_yearAnew_0 rfl (lv_at hl 0 rfl) ?_
  refine lv_iload_n hx hb dX5_yearAnew_1 rfl (lv_at hl 1 rfl) ?_
  exact q_callXW (As := [.int w]) hx hb hml hown hT hK hP hD hS hA hout hlk hX hZ (c_X5_needMentionx l htr D cA ad g z w hw (show (z 0) ≤ 16 by omega)) k_X5_needMention kl_X5_131 (q0 := 0) rfl rfl rfl hl rfl rfl (Nat.le_of_ble_eq_true rfl) ⟨⟨rfl, rfl⟩, Nat.le_of_ble_eq_true rfl, Nat.le_of_ble_eq_true rfl⟩ ⟨Nat.le_of_ble_eq_true rfl, Nat.le_of_ble_eq_true rfl⟩ dX5_yearAnew_2
abbrev rm_X5_seal : Room := { frames := 3, cells := 0, slots := 0, locals := 70 }
set_option maxRecDepth 100000 in
set_option maxHeartbeats 4000000 in
theorem c_X5_seal (l : Launch) (D : va_G) (cA : ClassId) (ad : Nat → Nat) (g : Nat → Nat → Int32) (z : Nat → Nat) (i : Nat) (j : Nat) (hi : i < (z 0)) (hj : j < (z 0)) (hc : (z 0) ≤ 16) (hne : ¬ i = j) : q_CI l yX5_seal [Cond.code yX5_seal cX5_seal 3 (some .boolean)] rm_X5_seal D cA [.ref (ad 70), .int (nI i), .int (nI j)] (rlW cA ad g z) (q_b (hasB ((g 9) i) (nI j))) (rlW cA ad (gs g 9 (tellF true (g 9) i j)) z) := by
  refine q_startI RX5 (by decide +kernel) rfl (Nat.le_of_ble_eq_true rfl) ?_
  intro p e s m below meth c A args H locs ls hx hb hr hml hown hT hlk hP hK hD hA hS hl
  have hl : lv_has ls 3 [(0, .ref (ad 70)), (1, .int (nI i)), (2, .int (nI j))] := hl
  refine lv_aload_n hx hb dX5_seal_0 rfl (lv_at hl 0 rfl) ?_
  refine lv_iload_n hx hb dX5_seal_1 rfl (lv_at hl 1 rfl) ?_
  refine lv_iload_n hx hb dX5_seal_2 rfl (lv_at hl 2 rfl) ?_
  refine q_callVW (As := [.int (nI i), .int (nI j)]) (w1 := rlW cA ad g z) hx hb hml hown hT hK hP hD hS hA (c_X5_needTwoMentions l D cA ad g z (nI i) (nI j) (q_r_nI (by omega)) (q_r_nI (by omega)) (fun h => by have := nI_eq1 (by omega) (by omega) h; omega) (show (z 0) ≤ 16 by omega)) k_X5_needTwoMentions kl_X5_115 (q0 := 0) rfl rfl rfl ((rlW_adr _ _ _ _).trans (rlW_adr _ _ _ _).symm) hl rfl rfl (Nat.le_of_ble_eq_true rfl) ⟨⟨rfl, rfl⟩, Nat.le_of_ble_eq_true rfl, Nat.le_of_ble_eq_true rfl⟩ ⟨Nat.zero_le _, Nat.zero_le _⟩ dX5_seal_3 (fun H locs hP hD hS => ?_)
  refine lv_aload_n hx hb dX5_seal_6 rfl (lv_at hl 0 rfl) ?_
  refine q_get hx hb hT hown hK hP kw_X5 0 rfl rfl 7 (by decide) kf_X5_40 rfl (v := .ref (ad 61)) rfl dX5_seal_7 ?_
  refine lv_iload_n hx hb dX5_seal_10 rfl (lv_at hl 1 rfl) ?_
  refine lv_iload_n hx hb dX5_seal_11 rfl (lv_at hl 2 rfl) ?_
  refine lv_iconst (v := nI 1) hx hb dX5_seal_12 (by decide +kernel) ?_
  refine q_top (y := q_b true) (rfl) ?_
  refine q_callI (As := [.int (nI i), .int (nI j), .int (q_b true)]) (r := q_b (hasB (g 9 i) (nI j))) (wc := prW cA (ad 61) (ad 9) (ad 39) 16 (g 9)) (w1 := prW cA (ad 61) (ad 9) (ad 39) 16 (tellF true (g 9) i j)) (ws1 := rlW cA ad (gs g 9 (tellF true (g 9) i j)) z) hx hb hml hown hT hK hP hD hS hA (c_X1_tell l D cA (ad 61) (ad 9) (ad 39) 16 (g 9) i j true (by omega) (by omega) (by omega)) k_X1_tell kl_X5_111 (q0 := 0) rfl rfl rfl [20, 21, 22] rfl rfl rfl rfl hl rfl rfl (Nat.le_of_ble_eq_true rfl) ⟨⟨rfl, rfl⟩, Nat.le_of_ble_eq_true rfl, Nat.le_of_ble_eq_true rfl⟩ ⟨Nat.zero_le _, Nat.zero_le _⟩ dX5_seal_13 (fun H locs hP hD hS => ?_)
  obtain ⟨nF13_9, enF13_9⟩ : ∃ y : Nat → Int32, y = tellF true (g 9) i j := ⟨_, rfl⟩
  have hP : va_P D vwCl (rlW cA ad (gs g 9 nF13_9) z) H := by rw [enF13_9]; exact hP
  have hD : va_D A (rlW cA ad (gs g 9 nF13_9) z) := by rw [enF13_9]; exact hD
  rw [enF13_9] at hP hD
  exact q_zret hx hb hr hlk (q_b_or _) (by rfl) hP hS dX5_seal_16
abbrev rm_X5_sealx : Room := { frames := 8, cells := 1, slots := 6, locals := 125 }
set_option maxRecDepth 100000 in
set_option maxHeartbeats 4000000 in
theorem c_X5_sealx (l : Launch) (htr : l.stackTraces = false) (D : va_G) (cA : ClassId) (ad : Nat → Nat) (g : Nat → Nat → Int32) (z : Nat → Nat) (x : Int32) (y : Int32) (h1 : ¬ q_r x (z 0)) (hc : (z 0) ≤ 16) : q_CX l yX5_seal [Cond.code yX5_seal cX5_seal 3 (some .boolean)] rm_X5_sealx D cA [.ref (ad 70), .int x, .int y] (rlW cA ad g z) "java/lang/IndexOutOfBoundsException" (rlW cA ad g z) := by
  refine q_startX RX5 (by decide +kernel) rfl (Nat.le_of_ble_eq_true rfl) ?_
  intro p e s m below meth c A args H locs ls hx hb hr hml hown hT hlk hP hK hD hA hS hl hout hX hZ
  have hl : lv_has ls 3 [(0, .ref (ad 70)), (1, .int x), (2, .int y)] := hl
  refine lv_aload_n hx hb dX5_seal_0 rfl (lv_at hl 0 rfl) ?_
  refine lv_iload_n hx hb dX5_seal_1 rfl (lv_at hl 1 rfl) ?_
  refine lv_iload_n hx hb dX5_seal_2 rfl (lv_at hl 2 rfl) ?_
  exact q_callXW (As := [.int x, .int y]) hx hb hml hown hT hK hP hD hS hA hout hlk hX hZ (c_X5_needTwoMentionsx l htr D cA ad g z x y h1 (show (z 0) ≤ 16 by omega)) k_X5_needTwoMentions kl_X5_115 (q0 := 0) rfl rfl rfl hl rfl rfl (Nat.le_of_ble_eq_true rfl) ⟨⟨rfl, rfl⟩, Nat.le_of_ble_eq_true rfl, Nat.le_of_ble_eq_true rfl⟩ ⟨Nat.le_of_ble_eq_true rfl, Nat.le_of_ble_eq_true rfl⟩ dX5_seal_3
abbrev rm_X5_sealx2 : Room := { frames := 8, cells := 1, slots := 6, locals := 125 }
set_option maxRecDepth 100000 in
set_option maxHeartbeats 4000000 in
theorem c_X5_sealx2 (l : Launch) (htr : l.stackTraces = false) (D : va_G) (cA : ClassId) (ad : Nat → Nat) (g : Nat → Nat → Int32) (z : Nat → Nat) (x : Int32) (y : Int32) (h1 : q_r x (z 0)) (h2 : ¬ q_r y (z 0)) (hc : (z 0) ≤ 16) : q_CX l yX5_seal [Cond.code yX5_seal cX5_seal 3 (some .boolean)] rm_X5_sealx2 D cA [.ref (ad 70), .int x, .int y] (rlW cA ad g z) "java/lang/IndexOutOfBoundsException" (rlW cA ad g z) := by
  refine q_startX RX5 (by decide +kernel) rfl (Nat.le_of_ble_eq_true rfl) ?_
  intro p e s m below meth c A args H locs ls hx hb hr hml hown hT hlk hP hK hD hA hS hl hout hX hZ
  have hl : lv_has ls 3 [(0, .ref (ad 70)), (1, .int x), (2, .int y)] := hl
  refine lv_aload_n hx hb dX5_seal_0 rfl (lv_at hl 0 rfl) ?_
  refine lv_iload_n hx hb dX5_seal_1 rfl (lv_at hl 1 rfl) ?_
  refine lv_iload_n hx hb dX5_seal_2 rfl (lv_at hl 2 rfl) ?_
  exact q_callXW (As := [.int x, .int y]) hx hb hml hown hT hK hP hD hS hA hout hlk hX hZ (c_X5_needTwoMentionsx2 l htr D cA ad g z x y h1 h2 (show (z 0) ≤ 16 by omega)) k_X5_needTwoMentions kl_X5_115 (q0 := 0) rfl rfl rfl hl rfl rfl (Nat.le_of_ble_eq_true rfl) ⟨⟨rfl, rfl⟩, Nat.le_of_ble_eq_true rfl, Nat.le_of_ble_eq_true rfl⟩ ⟨Nat.le_of_ble_eq_true rfl, Nat.le_of_ble_eq_true rfl⟩ dX5_seal_3
abbrev rm_X5_sealx3 : Room := { frames := 8, cells := 1, slots := 6, locals := 125 }
set_option maxRecDepth 100000 in
set_option maxHeartbeats 4000000 in
theorem c_X5_sealx3 (l : Launch) (htr : l.stackTraces = false) (D : va_G) (cA : ClassId) (ad : Nat → Nat) (g : Nat → Nat → Int32) (z : Nat → Nat) (x : Int32) (y : Int32) (h1 : q_r x (z 0)) (h2 : q_r y (z 0)) (hne : x = y) (hc : (z 0) ≤ 16) : q_CX l yX5_seal [Cond.code yX5_seal cX5_seal 3 (some .boolean)] rm_X5_sealx3 D cA [.ref (ad 70), .int x, .int y] (rlW cA ad g z) "java/lang/IllegalArgumentException" (rlW cA ad g z) := by
  refine q_startX RX5 (by decide +kernel) rfl (Nat.le_of_ble_eq_true rfl) ?_
  intro p e s m below meth c A args H locs ls hx hb hr hml hown hT hlk hP hK hD hA hS hl hout hX hZ
  have hl : lv_has ls 3 [(0, .ref (ad 70)), (1, .int x), (2, .int y)] := hl
  refine lv_aload_n hx hb dX5_seal_0 rfl (lv_at hl 0 rfl) ?_
  refine lv_iload_n hx hb dX5_seal_1 rfl (lv_at hl 1 rfl) ?_
  refine lv_iload_n hx hb dX5_seal_2 rfl (lv_at hl 2 rfl) ?_
  exact q_callXW (As := [.int x, .int y]) hx hb hml hown hT hK hP hD hS hA hout hlk hX hZ (c_X5_needTwoMentionsx3 l htr D cA ad g z x y h1 h2 hne (show (z 0) ≤ 16 by omega)) k_X5_needTwoMentions kl_X5_115 (q0 := 0) rfl rfl rfl hl rfl rfl (Nat.le_of_ble_eq_true rfl) ⟨⟨rfl, rfl⟩, Nat.le_of_ble_eq_true rfl, Nat.le_of_ble_eq_true rfl⟩ ⟨Nat.le_of_ble_eq_true rfl, Nat.le_of_ble_eq_true rfl⟩ dX5_seal_3
abbrev rm_X5_kin : Room := { frames := 3, cells := 0, slots := 0, locals := 70 }
set_option maxRecDepth 100000 in
set_option maxHeartbeats 4000000 in
theorem c_X5_kin (l : Launch) (D : va_G) (cA : ClassId) (ad : Nat → Nat) (g : Nat → Nat → Int32) (z : Nat → Nat) (i : Nat) (j : Nat) (hi : i < (z 0)) (hj : j < (z 0)) (hc : (z 0) ≤ 16) (hne : ¬ i = j) : q_CI l yX5_kin [Cond.code yX5_kin cX5_kin 3 (some .boolean)] rm_X5_kin D cA [.ref (ad 70), .int (nI i), .int (nI j)] (rlW cA ad g z) (q_b (hasB ((g 11) i) (nI j))) (rlW cA ad (gs g 11 (tellF true (g 11) i j)) z) := by
  refine q_startI RX5 (by decide +kernel) rfl (Nat.le_of_ble_eq_true rfl) ?_
  intro p e s m below meth c A args H locs ls hx hb hr hml hown hT hlk hP hK hD hA hS hl
  have hl : lv_has ls 3 [(0, .ref (ad 70)), (1, .int (nI i)), (2, .int (nI j))] := hl
  refine lv_aload_n hx hb dX5_kin_0 rfl (lv_at hl 0 rfl) ?_
  refine lv_iload_n hx hb dX5_kin_1 rfl (lv_at hl 1 rfl) ?_
  refine lv_iload_n hx hb dX5_kin_2 rfl (lv_at hl 2 rfl) ?_
  refine q_callVW (As := [.int (nI i), .int (nI j)]) (w1 := rlW cA ad g z) hx hb hml hown hT hK hP hD hS hA (c_X5_needTwoMentions l D cA ad g z (nI i) (nI j) (q_r_nI (by omega)) (q_r_nI (by omega)) (fun h => by have := nI_eq1 (by omega) (by omega) h; omega) (show (z 0) ≤ 16 by omega)) k_X5_needTwoMentions kl_X5_115 (q0 := 0) rfl rfl rfl ((rlW_adr _ _ _ _).trans (rlW_adr _ _ _ _).symm) hl rfl rfl (Nat.le_of_ble_eq_true rfl) ⟨⟨rfl, rfl⟩, Nat.le_of_ble_eq_true rfl, Nat.le_of_ble_eq_true rfl⟩ ⟨Nat.zero_le _, Nat.zero_le _⟩ dX5_kin_3 (fun H locs hP hD hS => ?_)
  refine lv_aload_n hx hb dX5_kin_6 rfl (lv_at hl 0 rfl) ?_
  refine q_get hx hb hT hown hK hP kw_X5 0 rfl rfl 9 (by decide) kf_X5_46 rfl (v := .ref (ad 63)) rfl dX5_kin_7 ?_
  refine lv_iload_n hx hb dX5_kin_10 rfl (lv_at hl 1 rfl) ?_
  refine lv_iload_n hx hb dX5_kin_11 rfl (lv_at hl 2 rfl) ?_
  refine lv_iconst (v := nI 1) hx hb dX5_kin_12 (by decide +kernel) ?_
  refine q_top (y := q_b true) (rfl) ?_
  refine q_callI (As := [.int (nI i), .int (nI j), .int (q_b true)]) (r := q_b (hasB (g 11 i) (nI j))) (wc := prW cA (ad 63) (ad 11) (ad 41) 16 (g 11)) (w1 := prW cA (ad 63) (ad 11) (ad 41) 16 (tellF true (g 11) i j)) (ws1 := rlW cA ad (gs g 11 (tellF true (g 11) i j)) z) hx hb hml hown hT hK hP hD hS hA (c_X1_tell l D cA (ad 63) (ad 11) (ad 41) 16 (g 11) i j true (by omega) (by omega) (by omega)) k_X1_tell kl_X5_111 (q0 := 0) rfl rfl rfl [26, 27, 28] rfl rfl rfl rfl hl rfl rfl (Nat.le_of_ble_eq_true rfl) ⟨⟨rfl, rfl⟩, Nat.le_of_ble_eq_true rfl, Nat.le_of_ble_eq_true rfl⟩ ⟨Nat.zero_le _, Nat.zero_le _⟩ dX5_kin_13 (fun H locs hP hD hS => ?_)
  obtain ⟨nF13_11, enF13_11⟩ : ∃ y : Nat → Int32, y = tellF true (g 11) i j := ⟨_, rfl⟩
  have hP : va_P D vwCl (rlW cA ad (gs g 11 nF13_11) z) H := by rw [enF13_11]; exact hP
  have hD : va_D A (rlW cA ad (gs g 11 nF13_11) z) := by rw [enF13_11]; exact hD
  rw [enF13_11] at hP hD
  exact q_zret hx hb hr hlk (q_b_or _) (by rfl) hP hS dX5_kin_16
abbrev rm_X5_kinx : Room := { frames := 8, cells := 1, slots := 6, locals := 125 }
set_option maxRecDepth 100000 in
set_option maxHeartbeats 4000000 in
theorem c_X5_kinx (l : Launch) (htr : l.stackTraces = false) (D : va_G) (cA : ClassId) (ad : Nat → Nat) (g : Nat → Nat → Int32) (z : Nat → Nat) (x : Int32) (y : Int32) (h1 : ¬ q_r x (z 0)) (hc : (z 0) ≤ 16) : q_CX l yX5_kin [Cond.code yX5_kin cX5_kin 3 (some .boolean)] rm_X5_kinx D cA [.ref (ad 70), .int x, .int y] (rlW cA ad g z) "java/lang/IndexOutOfBoundsException" (rlW cA ad g z) := by
  refine q_startX RX5 (by decide +kernel) rfl (Nat.le_of_ble_eq_true rfl) ?_
  intro p e s m below meth c A args H locs ls hx hb hr hml hown hT hlk hP hK hD hA hS hl hout hX hZ
  have hl : lv_has ls 3 [(0, .ref (ad 70)), (1, .int x), (2, .int y)] := hl
  refine lv_aload_n hx hb dX5_kin_0 rfl (lv_at hl 0 rfl) ?_
  refine lv_iload_n hx hb dX5_kin_1 rfl (lv_at hl 1 rfl) ?_
  refine lv_iload_n hx hb dX5_kin_2 rfl (lv_at hl 2 rfl) ?_
  exact q_callXW (As := [.int x, .int y]) hx hb hml hown hT hK hP hD hS hA hout hlk hX hZ (c_X5_needTwoMentionsx l htr D cA ad g z x y h1 (show (z 0) ≤ 16 by omega)) k_X5_needTwoMentions kl_X5_115 (q0 := 0) rfl rfl rfl hl rfl rfl (Nat.le_of_ble_eq_true rfl) ⟨⟨rfl, rfl⟩, Nat.le_of_ble_eq_true rfl, Nat.le_of_ble_eq_true rfl⟩ ⟨Nat.le_of_ble_eq_true rfl, Nat.le_of_ble_eq_true rfl⟩ dX5_kin_3
abbrev rm_X5_kinx2 : Room := { frames := 8, cells := 1, slots := 6, locals := 125 }
set_option maxRecDepth 100000 in
set_option maxHeartbeats 4000000 in
theorem c_X5_kinx2 (l : Launch) (htr : l.stackTraces = false) (D : va_G) (cA : ClassId) (ad : Nat → Nat) (g : Nat → Nat → Int32) (z : Nat → Nat) (x : Int32) (y : Int32) (h1 : q_r x (z 0)) (h2 : ¬ q_r y (z 0)) (hc : (z 0) ≤ 16) : q_CX l yX5_kin [Cond.code yX5_kin cX5_kin 3 (some .boolean)] rm_X5_kinx2 D cA [.ref (ad 70), .int x, .int y] (rlW cA ad g z) "java/lang/IndexOutOfBoundsException" (rlW cA ad g z) := by
  refine q_startX RX5 (by decide +kernel) rfl (Nat.le_of_ble_eq_true rfl) ?_
  intro p e s m below meth c A args H locs ls hx hb hr hml hown hT hlk hP hK hD hA hS hl hout hX hZ
  have hl : lv_has ls 3 [(0, .ref (ad 70)), (1, .int x), (2, .int y)] := hl
  refine lv_aload_n hx hb dX5_kin_0 rfl (lv_at hl 0 rfl) ?_
  refine lv_iload_n hx hb dX5_kin_1 rfl (lv_at hl 1 rfl) ?_
  refine lv_iload_n hx hb dX5_kin_2 rfl (lv_at hl 2 rfl) ?_
  exact q_callXW (As := [.int x, .int y]) hx hb hml hown hT hK hP hD hS hA hout hlk hX hZ (c_X5_needTwoMentionsx2 l htr D cA ad g z x y h1 h2 (show (z 0) ≤ 16 by omega)) k_X5_needTwoMentions kl_X5_115 (q0 := 0) rfl rfl rfl hl rfl rfl (Nat.le_of_ble_eq_true rfl) ⟨⟨rfl, rfl⟩, Nat.le_of_ble_eq_true rfl, Nat.le_of_ble_eq_true rfl⟩ ⟨Nat.le_of_ble_eq_true rfl, Nat.le_of_ble_eq_true rfl⟩ dX5_kin_3
abbrev rm_X5_kinx3 : Room := { frames := 8, cells := 1, slots := 6, locals := 125 }
set_option maxRecDepth 100000 in
set_option maxHeartbeats 4000000 in
theorem c_X5_kinx3 (l : Launch) (htr : l.stackTraces = false) (D : va_G) (cA : ClassId) (ad : Nat → Nat) (g : Nat → Nat → Int32) (z : Nat → Nat) (x : Int32) (y : Int32) (h1 : q_r x (z 0)) (h2 : q_r y (z 0)) (hne : x = y) (hc : (z 0) ≤ 16) : q_CX l yX5_kin [Cond.code yX5_kin cX5_kin 3 (some .boolean)] rm_X5_kinx3 D cA [.ref (ad 70), .int x, .int y] (rlW cA ad g z) "java/lang/IllegalArgumentException" (rlW cA ad g z) := by
  refine q_startX RX5 (by decide +kernel) rfl (Nat.le_of_ble_eq_true rfl) ?_
  intro p e s m below meth c A args H locs ls hx hb hr hml hown hT hlk hP hK hD hA hS hl hout hX hZ
  have hl : lv_has ls 3 [(0, .ref (ad 70)), (1, .int x), (2, .int y)] := hl
  refine lv_aload_n hx hb dX5_kin_0 rfl (lv_at hl 0 rfl) ?_
  refine lv_iload_n hx hb dX5_kin_1 rfl (lv_at hl 1 rfl) ?_
  refine lv_iload_n hx hb dX5_kin_2 rfl (lv_at hl 2 rfl) ?_
  exact q_callXW (As := [.int x, .int y]) hx hb hml hown hT hK hP hD hS hA hout hlk hX hZ (c_X5_needTwoMentionsx3 l htr D cA ad g z x y h1 h2 hne (show (z 0) ≤ 16 by omega)) k_X5_needTwoMentions kl_X5_115 (q0 := 0) rfl rfl rfl hl rfl rfl (Nat.le_of_ble_eq_true rfl) ⟨⟨rfl, rfl⟩, Nat.le_of_ble_eq_true rfl, Nat.le_of_ble_eq_true rfl⟩ ⟨Nat.le_of_ble_eq_true rfl, Nat.le_of_ble_eq_true rfl⟩ dX5_kin_3
abbrev rm_X5_block : Room := { frames := 3, cells := 0, slots := 0, locals := 70 }
set_option maxRecDepth 100000 in
set_option maxHeartbeats 4000000 in
theorem c_X5_block (l : Launch) (D : va_G) (cA : ClassId) (ad : Nat → Nat) (g : Nat → Nat → Int32) (z : Nat → Nat) (i : Nat) (j : Nat) (is : Bool) (hi : i < (z 0)) (hj : j < (z 0)) (hc : (z 0) ≤ 16) (hne : ¬ i = j) : q_CI l yX5_block [Cond.code yX5_block cX5_block 4 (some .boolean)] rm_X5_block D cA [.ref (ad 70), .int (nI i), .int (nI j), .int (q_b is)] (rlW cA ad g z) (q_b (hasB ((g 10) i) (nI j))) (rlW cA ad (gs g 10 (tellF is (g 10) i j)) z) := by
  refine q_startI RX5 (by decide +kernel) rfl (Nat.le_of_ble_eq_true rfl) ?_
  intro p e s m below meth c A args H locs ls hx hb hr hml hown hT hlk hP hK hD hA hS hl
  have hl : lv_has ls 4 [(0, .ref (ad 70)), (1, .int (nI i)), (2, .int (nI j)), (3, .int (q_b is))] := hl
  refine lv_aload_n hx hb dX5_block_0 rfl (lv_at hl 0 rfl) ?_
  refine lv_iload_n hx hb dX5_block_1 rfl (lv_at hl 1 rfl) ?_
  refine lv_iload_n hx hb dX5_block_2 rfl (lv_at hl 2 rfl) ?_
  refine q_callVW (As := [.int (nI i), .int (nI j)]) (w1 := rlW cA ad g z) hx hb hml hown hT hK hP hD hS hA (c_X5_needTwoMentions l D cA ad g z (nI i) (nI j) (q_r_nI (by omega)) (q_r_nI (by omega)) (fun h => by have := nI_eq1 (by omega) (by omega) h; omega) (show (z 0) ≤ 16 by omega)) k_X5_needTwoMentions kl_X5_115 (q0 := 0) rfl rfl rfl ((rlW_adr _ _ _ _).trans (rlW_adr _ _ _ _).symm) hl rfl rfl (Nat.le_of_ble_eq_true rfl) ⟨⟨rfl, rfl⟩, Nat.le_of_ble_eq_true rfl, Nat.le_of_ble_eq_true rfl⟩ ⟨Nat.zero_le _, Nat.zero_le _⟩ dX5_block_3 (fun H locs hP hD hS => ?_)
  refine lv_aload_n hx hb dX5_block_6 rfl (lv_at hl 0 rfl) ?_
  refine q_get hx hb hT hown hK hP kw_X5 0 rfl rfl 8 (by decide) kf_X5_43 rfl (v := .ref (ad 62)) rfl dX5_block_7 ?_
  refine lv_iload_n hx hb dX5_block_10 rfl (lv_at hl 1 rfl) ?_
  refine lv_iload_n hx hb dX5_block_11 rfl (lv_at hl 2 rfl) ?_
  refine lv_iload_n hx hb dX5_block_12 rfl (lv_at hl 3 rfl) ?_
  refine q_callI (As := [.int (nI i), .int (nI j), .int (q_b is)]) (r := q_b (hasB (g 10 i) (nI j))) (wc := prW cA (ad 62) (ad 10) (ad 40) 16 (g 10)) (w1 := prW cA (ad 62) (ad 10) (ad 40) 16 (tellF is (g 10) i j)) (ws1 := rlW cA ad (gs g 10 (tellF is (g 10) i j)) z) hx hb hml hown hT hK hP hD hS hA (c_X1_tell l D cA (ad 62) (ad 10) (ad 40) 16 (g 10) i j is (by omega) (by omega) (by omega)) k_X1_tell kl_X5_111 (q0 := 0) rfl rfl rfl [23, 24, 25] rfl rfl rfl rfl hl rfl rfl (Nat.le_of_ble_eq_true rfl) ⟨⟨rfl, rfl⟩, Nat.le_of_ble_eq_true rfl, Nat.le_of_ble_eq_true rfl⟩ ⟨Nat.zero_le _, Nat.zero_le _⟩ dX5_block_13 (fun H locs hP hD hS => ?_)
  obtain ⟨nF13_10, enF13_10⟩ : ∃ y : Nat → Int32, y = tellF is (g 10) i j := ⟨_, rfl⟩
  have hP : va_P D vwCl (rlW cA ad (gs g 10 nF13_10) z) H := by rw [enF13_10]; exact hP
  have hD : va_D A (rlW cA ad (gs g 10 nF13_10) z) := by rw [enF13_10]; exact hD
  rw [enF13_10] at hP hD
  exact q_zret hx hb hr hlk (q_b_or _) (by rfl) hP hS dX5_block_16
abbrev rm_X5_blockx : Room := { frames := 8, cells := 1, slots := 6, locals := 125 }
set_option maxRecDepth 100000 in
set_option maxHeartbeats 4000000 in
theorem c_X5_blockx (l : Launch) (htr : l.stackTraces = false) (D : va_G) (cA : ClassId) (ad : Nat → Nat) (g : Nat → Nat → Int32) (z : Nat → Nat) (x : Int32) (y : Int32) (is : Bool) (h1 : ¬ q_r x (z 0)) (hc : (z 0) ≤ 16) : q_CX l yX5_block [Cond.code yX5_block cX5_block 4 (some .boolean)] rm_X5_blockx D cA [.ref (ad 70), .int x, .int y, .int (q_b is)] (rlW cA ad g z) "java/lang/IndexOutOfBoundsException" (rlW cA ad g z) := by
  refine q_startX RX5 (by decide +kernel) rfl (Nat.le_of_ble_eq_true rfl) ?_
  intro p e s m below meth c A args H locs ls hx hb hr hml hown hT hlk hP hK hD hA hS hl hout hX hZ
  have hl : lv_has ls 4 [(0, .ref (ad 70)), (1, .int x), (2, .int y), (3, .int (q_b is))] := hl
  refine lv_aload_n hx hb dX5_block_0 rfl (lv_at hl 0 rfl) ?_
  refine lv_iload_n hx hb dX5_block_1 rfl (lv_at hl 1 rfl) ?_
  refine lv_iload_n hx hb dX5_block_2 rfl (lv_at hl 2 rfl) ?_
  exact q_callXW (As := [.int x, .int y]) hx hb hml hown hT hK hP hD hS hA hout hlk hX hZ (c_X5_needTwoMentionsx l htr D cA ad g z x y h1 (show (z 0) ≤ 16 by omega)) k_X5_needTwoMentions kl_X5_115 (q0 := 0) rfl rfl rfl hl rfl rfl (Nat.le_of_ble_eq_true rfl) ⟨⟨rfl, rfl⟩, Nat.le_of_ble_eq_true rfl, Nat.le_of_ble_eq_true rfl⟩ ⟨Nat.le_of_ble_eq_true rfl, Nat.le_of_ble_eq_true rfl⟩ dX5_block_3
abbrev rm_X5_blockx2 : Room := { frames := 8, cells := 1, slots := 6, locals := 125 }
set_option maxRecDepth 100000 in
set_option maxHeartbeats 4000000 in
theorem c_X5_blockx2 (l : Launch) (htr : l.stackTraces = false) (D : va_G) (cA : ClassId) (ad : Nat → Nat) (g : Nat → Nat → Int32) (z : Nat → Nat) (x : Int32) (y : Int32) (is : Bool) (h1 : q_r x (z 0)) (h2 : ¬ q_r y (z 0)) (hc : (z 0) ≤ 16) : q_CX l yX5_block [Cond.code yX5_block cX5_block 4 (some .boolean)] rm_X5_blockx2 D cA [.ref (ad 70), .int x, .int y, .int (q_b is)] (rlW cA ad g z) "java/lang/IndexOutOfBoundsException" (rlW cA ad g z) := by
  refine q_startX RX5 (by decide +kernel) rfl (Nat.le_of_ble_eq_true rfl) ?_
  intro p e s m below meth c A args H locs ls hx hb hr hml hown hT hlk hP hK hD hA hS hl hout hX hZ
  have hl : lv_has ls 4 [(0, .ref (ad 70)), (1, .int x), (2, .int y), (3, .int (q_b is))] := hl
  refine lv_aload_n hx hb dX5_block_0 rfl (lv_at hl 0 rfl) ?_
  refine lv_iload_n hx hb dX5_block_1 rfl (lv_at hl 1 rfl) ?_
  refine lv_iload_n hx hb dX5_block_2 rfl (lv_at hl 2 rfl) ?_
  exact q_callXW (As := [.int x, .int y]) hx hb hml hown hT hK hP hD hS hA hout hlk hX hZ (c_X5_needTwoMentionsx2 l htr D cA ad g z x y h1 h2 (show (z 0) ≤ 16 by omega)) k_X5_needTwoMentions kl_X5_115 (q0 := 0) rfl rfl rfl hl rfl rfl (Nat.le_of_ble_eq_true rfl) ⟨⟨rfl, rfl⟩, Nat.le_of_ble_eq_true rfl, Nat.le_of_ble_eq_true rfl⟩ ⟨Nat.le_of_ble_eq_true rfl, Nat.le_of_ble_eq_true rfl⟩ dX5_block_3
abbrev rm_X5_blockx3 : Room := { frames := 8, cells := 1, slots := 6, locals := 125 }
set_option maxRecDepth 100000 in
set_option maxHeartbeats 4000000 in
theorem c_X5_blockx3 (l : Launch) (htr : l.stackTraces = false) (D : va_G) (cA : ClassId) (ad : Nat → Nat) (g : Nat → Nat → Int32) (z : Nat → Nat) (x : Int32) (y : Int32) (is : Bool) (h1 : q_r x (z 0)) (h2 : q_r y (z 0)) (hne : x = y) (hc : (z 0) ≤ 16) : q_CX l yX5_block [Cond.code yX5_block cX5_block 4 (some .boolean)] rm_X5_blockx3 D cA [.ref (ad 70), .int x, .int y, .int (q_b is)] (rlW cA ad g z) "java/lang/IllegalArgumentException" (rlW cA ad g z) := by
  refine q_startX RX5 (by decide +kernel) rfl (Nat.le_of_ble_eq_true rfl) ?_
  intro p e s m below meth c A args H locs ls hx hb hr hml hown hT hlk hP hK hD hA hS hl hout hX hZ
  have hl : lv_has ls 4 [(0, .ref (ad 70)), (1, .int x), (2, .int y), (3, .int (q_b is))] := hl
  refine lv_aload_n hx hb dX5_block_0 rfl (lv_at hl 0 rfl) ?_
  refine lv_iload_n hx hb dX5_block_1 rfl (lv_at hl 1 rfl) ?_
  refine lv_iload_n hx hb dX5_block_2 rfl (lv_at hl 2 rfl) ?_
  exact q_callXW (As := [.int x, .int y]) hx hb hml hown hT hK hP hD hS hA hout hlk hX hZ (c_X5_needTwoMentionsx3 l htr D cA ad g z x y h1 h2 hne (show (z 0) ≤ 16 by omega)) k_X5_needTwoMentions kl_X5_115 (q0 := 0) rfl rfl rfl hl rfl rfl (Nat.le_of_ble_eq_true rfl) ⟨⟨rfl, rfl⟩, Nat.le_of_ble_eq_true rfl, Nat.le_of_ble_eq_true rfl⟩ ⟨Nat.le_of_ble_eq_true rfl, Nat.le_of_ble_eq_true rfl⟩ dX5_block_3
abbrev rm_X5_weight : Room := { frames := 3, cells := 0, slots := 0, locals := 66 }
set_option maxRecDepth 100000 in
set_option maxHeartbeats 4000000 in
theorem c_X5_weight (l : Launch) (D : va_G) (cA : ClassId) (ad : Nat → Nat) (g : Nat → Nat → Int32) (z : Nat → Nat) (i : Nat) (j : Nat) (hi : i < (z 0)) (hj : j < (z 0)) (hc : (z 0) ≤ 16) (hne : ¬ i = j) : q_CI l yX5_weight [Cond.code yX5_weight cX5_weight 3 (some .int)] rm_X5_weight D cA [.ref (ad 70), .int (nI i), .int (nI j)] (rlW cA ad g z) (nI (wtN g i j)) (rlW cA ad g z) := by
  refine q_startI RX5 (by decide +kernel) rfl (Nat.le_of_ble_eq_true rfl) ?_
  intro p e s m below meth c A args H locs ls hx hb hr hml hown hT hlk hP hK hD hA hS hl
  have hl : lv_has ls 3 [(0, .ref (ad 70)), (1, .int (nI i)), (2, .int (nI j))] := hl
  refine lv_aload_n hx hb dX5_weight_0 rfl (lv_at hl 0 rfl) ?_
  refine lv_iload_n hx hb dX5_weight_1 rfl (lv_at hl 1 rfl) ?_
  refine lv_iload_n hx hb dX5_weight_2 rfl (lv_at hl 2 rfl) ?_
  refine q_callVW (As := [.int (nI i), .int (nI j)]) (w1 := rlW cA ad g z) hx hb hml hown hT hK hP hD hS hA (c_X5_needTwoMentions l D cA ad g z (nI i) (nI j) (q_r_nI (by omega)) (q_r_nI (by omega)) (fun h => by have := nI_eq1 (by omega) (by omega) h; omega) (show (z 0) ≤ 16 by omega)) k_X5_needTwoMentions kl_X5_115 (q0 := 0) rfl rfl rfl ((rlW_adr _ _ _ _).trans (rlW_adr _ _ _ _).symm) hl rfl rfl (Nat.le_of_ble_eq_true rfl) ⟨⟨rfl, rfl⟩, Nat.le_of_ble_eq_true rfl, Nat.le_of_ble_eq_true rfl⟩ ⟨Nat.zero_le _, Nat.zero_le _⟩ dX5_weight_3 (fun H locs hP hD hS => ?_)
  refine lv_aload_n hx hb dX5_weight_6 rfl (lv_at hl 0 rfl) ?_
  refine lv_iload_n hx hb dX5_weight_7 rfl (lv_at hl 1 rfl) ?_
  refine lv_iload_n hx hb dX5_weight_8 rfl (lv_at hl 2 rfl) ?_
  refine q_callIW (As := [.int (nI i), .int (nI j)]) (r := nI (wtN g i j)) (w1 := rlW cA ad g z) hx hb hml hown hT hK hP hD hS hA (c_X5_weightOf l D cA ad g z i j (show i < 16 by omega) (show j < 16 by omega)) k_X5_weightOf kl_X5_155 (q0 := 0) rfl rfl rfl ((rlW_adr _ _ _ _).trans (rlW_adr _ _ _ _).symm) hl rfl rfl (Nat.le_of_ble_eq_true rfl) ⟨⟨rfl, rfl⟩, Nat.le_of_ble_eq_true rfl, Nat.le_of_ble_eq_true rfl⟩ ⟨Nat.zero_le _, Nat.zero_le _⟩ dX5_weight_9 (fun H locs hP hD hS => ?_)
  exact q_iret hx hb hr hlk (by rfl) hP hS dX5_weight_12
abbrev rm_X5_weightx : Room := { frames := 8, cells := 1, slots := 6, locals := 125 }
set_option maxRecDepth 100000 in
set_option maxHeartbeats 4000000 in
theorem c_X5_weightx (l : Launch) (htr : l.stackTraces = false) (D : va_G) (cA : ClassId) (ad : Nat → Nat) (g : Nat → Nat → Int32) (z : Nat → Nat) (x : Int32) (y : Int32) (h1 : ¬ q_r x (z 0)) (hc : (z 0) ≤ 16) : q_CX l yX5_weight [Cond.code yX5_weight cX5_weight 3 (some .int)] rm_X5_weightx D cA [.ref (ad 70), .int x, .int y] (rlW cA ad g z) "java/lang/IndexOutOfBoundsException" (rlW cA ad g z) := by
  refine q_startX RX5 (by decide +kernel) rfl (Nat.le_of_ble_eq_true rfl) ?_
  intro p e s m below meth c A args H locs ls hx hb hr hml hown hT hlk hP hK hD hA hS hl hout hX hZ
  have hl : lv_has ls 3 [(0, .ref (ad 70)), (1, .int x), (2, .int y)] := hl
  refine lv_aload_n hx hb dX5_weight_0 rfl (lv_at hl 0 rfl) ?_
  refine lv_iload_n hx hb dX5_weight_1 rfl (lv_at hl 1 rfl) ?_
  refine lv_iload_n hx hb dX5_weight_2 rfl (lv_at hl 2 rfl) ?_
  exact q_callXW (As := [.int x, .int y]) hx hb hml hown hT hK hP hD hS hA hout hlk hX hZ (c_X5_needTwoMentionsx l htr D cA ad g z x y h1 (show (z 0) ≤ 16 by omega)) k_X5_needTwoMentions kl_X5_115 (q0 := 0) rfl rfl rfl hl rfl rfl (Nat.le_of_ble_eq_true rfl) ⟨⟨rfl, rfl⟩, Nat.le_of_ble_eq_true rfl, Nat.le_of_ble_eq_true rfl⟩ ⟨Nat.le_of_ble_eq_true rfl, Nat.le_of_ble_eq_true rfl⟩ dX5_weight_3
abbrev rm_X5_weightx2 : Room := { frames := 8, cells := 1, slots := 6, locals := 125 }
set_option maxRecDepth 100000 in
set_option maxHeartbeats 4000000 in
theorem c_X5_weightx2 (l : Launch) (htr : l.stackTraces = false) (D : va_G) (cA : ClassId) (ad : Nat → Nat) (g : Nat → Nat → Int32) (z : Nat → Nat) (x : Int32) (y : Int32) (h1 : q_r x (z 0)) (h2 : ¬ q_r y (z 0)) (hc : (z 0) ≤ 16) : q_CX l yX5_weight [Cond.code yX5_weight cX5_weight 3 (some .int)] rm_X5_weightx2 D cA [.ref (ad 70), .int x, .int y] (rlW cA ad g z) "java/lang/IndexOutOfBoundsException" (rlW cA ad g z) := by
  refine q_startX RX5 (by decide +kernel) rfl (Nat.le_of_ble_eq_true rfl) ?_
  intro p e s m below meth c A args H locs ls hx hb hr hml hown hT hlk hP hK hD hA hS hl hout hX hZ
  have hl : lv_has ls 3 [(0, .ref (ad 70)), (1, .int x), (2, .int y)] := hl
  refine lv_aload_n hx hb dX5_weight_0 rfl (lv_at hl 0 rfl) ?_
  refine lv_iload_n hx hb dX5_weight_1 rfl (lv_at hl 1 rfl) ?_
  refine lv_iload_n hx hb dX5_weight_2 rfl (lv_at hl 2 rfl) ?_
  exact q_callXW (As := [.int x, .int y]) hx hb hml hown hT hK hP hD hS hA hout hlk hX hZ (c_X5_needTwoMentionsx2 l htr D cA ad g z x y h1 h2 (show (z 0) ≤ 16 by omega)) k_X5_needTwoMentions kl_X5_115 (q0 := 0) rfl rfl rfl hl rfl rfl (Nat.le_of_ble_eq_true rfl) ⟨⟨rfl, rfl⟩, Nat.le_of_ble_eq_true rfl, Nat.le_of_ble_eq_true rfl⟩ ⟨Nat.le_of_ble_eq_true rfl, Nat.le_of_ble_eq_true rfl⟩ dX5_weight_3
abbrev rm_X5_weightx3 : Room := { frames := 8, cells := 1, slots := 6, locals := 125 }
set_option maxRecDepth 100000 in
set_option maxHeartbeats 4000000 in
theorem c_X5_weightx3 (l : Launch) (htr : l.stackTraces = false) (D : va_G) (cA : ClassId) (ad : Nat → Nat) (g : Nat → Nat → Int32) (z : Nat → Nat) (x : Int32) (y : Int32) (h1 : q_r x (z 0)) (h2 : q_r y (z 0)) (hne : x = y) (hc : (z 0) ≤ 16) : q_CX l yX5_weight [Cond.code yX5_weight cX5_weight 3 (some .int)] rm_X5_weightx3 D cA [.ref (ad 70), .int x, .int y] (rlW cA ad g z) "java/lang/IllegalArgumentException" (rlW cA ad g z) := by
  refine q_startX RX5 (by decide +kernel) rfl (Nat.le_of_ble_eq_true rfl) ?_
  intro p e s m below meth c A args H locs ls hx hb hr hml hown hT hlk hP hK hD hA hS hl hout hX hZ
  have hl : lv_has ls 3 [(0, .ref (ad 70)), (1, .int x), (2, .int y)] := hl
  refine lv_aload_n hx hb dX5_weight_0 rfl (lv_at hl 0 rfl) ?_
  refine lv_iload_n hx hb dX5_weight_1 rfl (lv_at hl 1 rfl) ?_
  refine lv_iload_n hx hb dX5_weight_2 rfl (lv_at hl 2 rfl) ?_
  exact q_callXW (As := [.int x, .int y]) hx hb hml hown hT hK hP hD hS hA hout hlk hX hZ (c_X5_needTwoMentionsx3 l htr D cA ad g z x y h1 h2 hne (show (z 0) ≤ 16 by omega)) k_X5_needTwoMentions kl_X5_115 (q0 := 0) rfl rfl rfl hl rfl rfl (Nat.le_of_ble_eq_true rfl) ⟨⟨rfl, rfl⟩, Nat.le_of_ble_eq_true rfl, Nat.le_of_ble_eq_true rfl⟩ ⟨Nat.le_of_ble_eq_true rfl, Nat.le_of_ble_eq_true rfl⟩ dX5_weight_3
abbrev rm_X5_whyNot : Room := { frames := 6, cells := 0, slots := 0, locals := 139 }
set_option maxRecDepth 100000 in
set_option maxHeartbeats 4000000 in
theorem c_X5_whyNot (l : Launch) (D : va_G) (cA : ClassId) (ad : Nat → Nat) (g : Nat → Nat → Int32) (z : Nat → Nat) (i : Nat) (j : Nat) (hi : i < (z 0)) (hj : j < (z 0)) (hc : (z 0) ≤ 16) (hne : ¬ i = j) : q_CI l yX5_whyNot [Cond.code yX5_whyNot cX5_whyNot 3 (some .int)] rm_X5_whyNot D cA [.ref (ad 70), .int (nI i), .int (nI j)] (rlW cA ad g z) (nI (raG g (z 0) i j)) (rlW cA ad g z) := by
  refine q_startI RX5 (by decide +kernel) rfl (Nat.le_of_ble_eq_true rfl) ?_
  intro p e s m below meth c A args H locs ls hx hb hr hml hown hT hlk hP hK hD hA hS hl
  have hl : lv_has ls 3 [(0, .ref (ad 70)), (1, .int (nI i)), (2, .int (nI j))] := hl
  refine lv_aload_n hx hb dX5_whyNot_0 rfl (lv_at hl 0 rfl) ?_
  refine lv_iload_n hx hb dX5_whyNot_1 rfl (lv_at hl 1 rfl) ?_
  refine lv_iload_n hx hb dX5_whyNot_2 rfl (lv_at hl 2 rfl) ?_
  refine q_callVW (As := [.int (nI i), .int (nI j)]) (w1 := rlW cA ad g z) hx hb hml hown hT hK hP hD hS hA (c_X5_needTwoMentions l D cA ad g z (nI i) (nI j) (q_r_nI (by omega)) (q_r_nI (by omega)) (fun h => by have := nI_eq1 (by omega) (by omega) h; omega) (show (z 0) ≤ 16 by omega)) k_X5_needTwoMentions kl_X5_115 (q0 := 0) rfl rfl rfl ((rlW_adr _ _ _ _).trans (rlW_adr _ _ _ _).symm) hl rfl rfl (Nat.le_of_ble_eq_true rfl) ⟨⟨rfl, rfl⟩, Nat.le_of_ble_eq_true rfl, Nat.le_of_ble_eq_true rfl⟩ ⟨Nat.zero_le _, Nat.zero_le _⟩ dX5_whyNot_3 (fun H locs hP hD hS => ?_)
  refine lv_aload_n hx hb dX5_whyNot_6 rfl (lv_at hl 0 rfl) ?_
  refine lv_iload_n hx hb dX5_whyNot_7 rfl (lv_at hl 1 rfl) ?_
  refine lv_iload_n hx hb dX5_whyNot_8 rfl (lv_at hl 2 rfl) ?_
  refine q_callIW (As := [.int (nI i), .int (nI j)]) (r := nI (raG g (z 0) i j)) (w1 := rlW cA ad g z) hx hb hml hown hT hK hP hD hS hA (c_X5_reasonAgainst l D cA ad g z i j (show i < 16 by omega) (show j < 16 by omega) (show (z 0) ≤ 16 by omega)) k_X5_reasonAgainst kl_X5_159 (q0 := 0) rfl rfl rfl ((rlW_adr _ _ _ _).trans (rlW_adr _ _ _ _).symm) hl rfl rfl (Nat.le_of_ble_eq_true rfl) ⟨⟨rfl, rfl⟩, Nat.le_of_ble_eq_true rfl, Nat.le_of_ble_eq_true rfl⟩ ⟨Nat.zero_le _, Nat.zero_le _⟩ dX5_whyNot_9 (fun H locs hP hD hS => ?_)
  exact q_iret hx hb hr hlk (by rfl) hP hS dX5_whyNot_12
abbrev rm_X5_whyNotx : Room := { frames := 8, cells := 1, slots := 6, locals := 125 }
set_option maxRecDepth 100000 in
set_option maxHeartbeats 4000000 in
theorem c_X5_whyNotx (l : Launch) (htr : l.stackTraces = false) (D : va_G) (cA : ClassId) (ad : Nat → Nat) (g : Nat → Nat → Int32) (z : Nat → Nat) (x : Int32) (y : Int32) (h1 : ¬ q_r x (z 0)) (hc : (z 0) ≤ 16) : q_CX l yX5_whyNot [Cond.code yX5_whyNot cX5_whyNot 3 (some .int)] rm_X5_whyNotx D cA [.ref (ad 70), .int x, .int y] (rlW cA ad g z) "java/lang/IndexOutOfBoundsException" (rlW cA ad g z) := by
  refine q_startX RX5 (by decide +kernel) rfl (Nat.le_of_ble_eq_true rfl) ?_
  intro p e s m below meth c A args H locs ls hx hb hr hml hown hT hlk hP hK hD hA hS hl hout hX hZ
  have hl : lv_has ls 3 [(0, .ref (ad 70)), (1, .int x), (2, .int y)] := hl
  refine lv_aload_n hx hb dX5_whyNot_0 rfl (lv_at hl 0 rfl) ?_
  refine lv_iload_n hx hb dX5_whyNot_1 rfl (lv_at hl 1 rfl) ?_
  refine lv_iload_n hx hb dX5_whyNot_2 rfl (lv_at hl 2 rfl) ?_
  exact q_callXW (As := [.int x, .int y]) hx hb hml hown hT hK hP hD hS hA hout hlk hX hZ (c_X5_needTwoMentionsx l htr D cA ad g z x y h1 (show (z 0) ≤ 16 by omega)) k_X5_needTwoMentions kl_X5_115 (q0 := 0) rfl rfl rfl hl rfl rfl (Nat.le_of_ble_eq_true rfl) ⟨⟨rfl, rfl⟩, Nat.le_of_ble_eq_true rfl, Nat.le_of_ble_eq_true rfl⟩ ⟨Nat.le_of_ble_eq_true rfl, Nat.le_of_ble_eq_true rfl⟩ dX5_whyNot_3
abbrev rm_X5_whyNotx2 : Room := { frames := 8, cells := 1, slots := 6, locals := 125 }
set_option maxRecDepth 100000 in
set_option maxHeartbeats 4000000 in
theorem c_X5_whyNotx2 (l : Launch) (htr : l.stackTraces = false) (D : va_G) (cA : ClassId) (ad : Nat → Nat) (g : Nat → Nat → Int32) (z : Nat → Nat) (x : Int32) (y : Int32) (h1 : q_r x (z 0)) (h2 : ¬ q_r y (z 0)) (hc : (z 0) ≤ 16) : q_CX l yX5_whyNot [Cond.code yX5_whyNot cX5_whyNot 3 (some .int)] rm_X5_whyNotx2 D cA [.ref (ad 70), .int x, .int y] (rlW cA ad g z) "java/lang/IndexOutOfBoundsException" (rlW cA ad g z) := by
  refine q_startX RX5 (by decide +kernel) rfl (Nat.le_of_ble_eq_true rfl) ?_
  intro p e s m below meth c A args H locs ls hx hb hr hml hown hT hlk hP hK hD hA hS hl hout hX hZ
  have hl : lv_has ls 3 [(0, .ref (ad 70)), (1, .int x), (2, .int y)] := hl
  refine lv_aload_n hx hb dX5_whyNot_0 rfl (lv_at hl 0 rfl) ?_
  refine lv_iload_n hx hb dX5_whyNot_1 rfl (lv_at hl 1 rfl) ?_
  refine lv_iload_n hx hb dX5_whyNot_2 rfl (lv_at hl 2 rfl) ?_
  exact q_callXW (As := [.int x, .int y]) hx hb hml hown hT hK hP hD hS hA hout hlk hX hZ (c_X5_needTwoMentionsx2 l htr D cA ad g z x y h1 h2 (show (z 0) ≤ 16 by omega)) k_X5_needTwoMentions kl_X5_115 (q0 := 0) rfl rfl rfl hl rfl rfl (Nat.le_of_ble_eq_true rfl) ⟨⟨rfl, rfl⟩, Nat.le_of_ble_eq_true rfl, Nat.le_of_ble_eq_true rfl⟩ ⟨Nat.le_of_ble_eq_true rfl, Nat.le_of_ble_eq_true rfl⟩ dX5_whyNot_3
abbrev rm_X5_whyNotx3 : Room := { frames := 8, cells := 1, slots := 6, locals := 125 }
set_option maxRecDepth 100000 in
set_option maxHeartbeats 4000000 in
theorem c_X5_whyNotx3 (l : Launch) (htr : l.stackTraces = false) (D : va_G) (cA : ClassId) (ad : Nat → Nat) (g : Nat → Nat → Int32) (z : Nat → Nat) (x : Int32) (y : Int32) (h1 : q_r x (z 0)) (h2 : q_r y (z 0)) (hne : x = y) (hc : (z 0) ≤ 16) : q_CX l yX5_whyNot [Cond.code yX5_whyNot cX5_whyNot 3 (some .int)] rm_X5_whyNotx3 D cA [.ref (ad 70), .int x, .int y] (rlW cA ad g z) "java/lang/IllegalArgumentException" (rlW cA ad g z) := by
  refine q_startX RX5 (by decide +kernel) rfl (Nat.le_of_ble_eq_true rfl) ?_
  intro p e s m below meth c A args H locs ls hx hb hr hml hown hT hlk hP hK hD hA hS hl hout hX hZ
  have hl : lv_has ls 3 [(0, .ref (ad 70)), (1, .int x), (2, .int y)] := hl
  refine lv_aload_n hx hb dX5_whyNot_0 rfl (lv_at hl 0 rfl) ?_
  refine lv_iload_n hx hb dX5_whyNot_1 rfl (lv_at hl 1 rfl) ?_
  refine lv_iload_n hx hb dX5_whyNot_2 rfl (lv_at hl 2 rfl) ?_
  exact q_callXW (As := [.int x, .int y]) hx hb hml hown hT hK hP hD hS hA hout hlk hX hZ (c_X5_needTwoMentionsx3 l htr D cA ad g z x y h1 h2 hne (show (z 0) ≤ 16 by omega)) k_X5_needTwoMentions kl_X5_115 (q0 := 0) rfl rfl rfl hl rfl rfl (Nat.le_of_ble_eq_true rfl) ⟨⟨rfl, rfl⟩, Nat.le_of_ble_eq_true rfl, Nat.le_of_ble_eq_true rfl⟩ ⟨Nat.le_of_ble_eq_true rfl, Nat.le_of_ble_eq_true rfl⟩ dX5_whyNot_3
abbrev rm_X5_join : Room := { frames := 6, cells := 0, slots := 0, locals := 139 }
set_option maxRecDepth 100000 in
set_option maxHeartbeats 4000000 in
theorem c_X5_join (l : Launch) (D : va_G) (cA : ClassId) (ad : Nat → Nat) (g : Nat → Nat → Int32) (z : Nat → Nat) (i : Nat) (j : Nat) (hi : i < (z 0)) (hj : j < (z 0)) (hc : (z 0) ≤ 16) (hne : ¬ i = j) (hra : raG g (z 0) i j = 0) (hO : ∀ k, k < (z 0) → q_r ((g 22) k) 40) (hm9 : (z 2) ≤ 40) : q_CI l yX5_join [Cond.code yX5_join cX5_join 3 (some .int)] rm_X5_join D cA [.ref (ad 70), .int (nI i), .int (nI j)] (rlW cA ad g z) (nI (min (q_n (g 22 i)) (q_n (g 22 j)))) (rlW cA ad (gs (gs g 22 (repl (g 22) (nI (max (q_n (g 22 i)) (q_n (g 22 j)))) (nI (min (q_n (g 22 i)) (q_n (g 22 j)))) 16)) 23 (repl (g 23) (nI (max (q_n (g 22 i)) (q_n (g 22 j)))) (nI (min (q_n (g 22 i)) (q_n (g 22 j)))) (z 2))) z) := by
  refine q_startI RX5 (by decide +kernel) rfl (Nat.le_of_ble_eq_true rfl) ?_
  intro p e s m below meth c A args H locs ls hx hb hr hml hown hT hlk hP hK hD hA hS hl
  have hl : lv_has ls 3 [(0, .ref (ad 70)), (1, .int (nI i)), (2, .int (nI j))] := hl
  have hrg := raG_le g (z 0) i j
  refine lv_aload_n hx hb dX5_join_0 rfl (lv_at hl 0 rfl) ?_
  refine lv_iload_n hx hb dX5_join_1 rfl (lv_at hl 1 rfl) ?_
  refine lv_iload_n hx hb dX5_join_2 rfl (lv_at hl 2 rfl) ?_
  refine q_callVW (As := [.int (nI i), .int (nI j)]) (w1 := rlW cA ad g z) hx hb hml hown hT hK hP hD hS hA (c_X5_needTwoMentions l D cA ad g z (nI i) (nI j) (q_r_nI (by omega)) (q_r_nI (by omega)) (fun h => by have := nI_eq1 (by omega) (by omega) h; omega) (show (z 0) ≤ 16 by omega)) k_X5_needTwoMentions kl_X5_115 (q0 := 0) rfl rfl rfl ((rlW_adr _ _ _ _).trans (rlW_adr _ _ _ _).symm) hl rfl rfl (Nat.le_of_ble_eq_true rfl) ⟨⟨rfl, rfl⟩, Nat.le_of_ble_eq_true rfl, Nat.le_of_ble_eq_true rfl⟩ ⟨Nat.zero_le _, Nat.zero_le _⟩ dX5_join_3 (fun H locs hP hD hS => ?_)
  refine lv_aload_n hx hb dX5_join_6 rfl (lv_at hl 0 rfl) ?_
  refine lv_iload_n hx hb dX5_join_7 rfl (lv_at hl 1 rfl) ?_
  refine lv_iload_n hx hb dX5_join_8 rfl (lv_at hl 2 rfl) ?_
  refine q_callIW (As := [.int (nI i), .int (nI j)]) (r := nI (raG g (z 0) i j)) (w1 := rlW cA ad g z) hx hb hml hown hT hK hP hD hS hA (c_X5_reasonAgainst l D cA ad g z i j (show i < 16 by omega) (show j < 16 by omega) (show (z 0) ≤ 16 by omega)) k_X5_reasonAgainst kl_X5_159 (q0 := 0) rfl rfl rfl ((rlW_adr _ _ _ _).trans (rlW_adr _ _ _ _).symm) hl rfl rfl (Nat.le_of_ble_eq_true rfl) ⟨⟨rfl, rfl⟩, Nat.le_of_ble_eq_true rfl, Nat.le_of_ble_eq_true rfl⟩ ⟨Nat.zero_le _, Nat.zero_le _⟩ dX5_join_9 (fun H locs hP hD hS => ?_)
  refine lv_if_eq (tgt := 25) hx hb dX5_join_12 (by decide) (fun c_12 => ?_) (fun c_12 => ?_)
  · have c_12 := nI_eq1 (a := raG g (z 0) i j) (b := 0) (by omega) (by omega) c_12
    refine lv_aload_n hx hb dX5_join_25 rfl (lv_at hl 0 rfl) ?_
    refine q_get hx hb hT hown hK hP kw_X5 0 rfl rfl 11 (by decide) kf_X5_59 rfl (v := .ref (ad 72)) rfl dX5_join_26 ?_
    refine lv_aload_n hx hb dX5_join_29 rfl (lv_at hl 0 rfl) ?_
    refine q_get hx hb hT hown hK hP kw_X5 0 rfl rfl 11 (by decide) kf_X5_59 rfl (v := .ref (ad 72)) rfl dX5_join_30 ?_
    refine lv_iload_n hx hb dX5_join_33 rfl (lv_at hl 1 rfl) ?_
    refine q_callIS (As := [.int (nI i)]) (r := (g 22) i) (wc := psW cA ad g z) (w1 := psW cA ad g z) (ws1 := rlW cA ad g z) hx hb hml hown hT hK hP hD hS hA (c_X2_ownerOf l D cA ad g z i (show i < 16 by omega)) k_X2_ownerOf kl_X5_164 (q0 := 0) rfl rfl rfl (rl_a cA ad g z ++ yrW cA ad g z) (gpW cA ad g z) (List.append_assoc _ _ _).symm (rl_p rfl rfl rfl) ((psW_adr _ _ _ _).trans (psW_adr _ _ _ _).symm) hl rfl rfl (Nat.le_of_ble_eq_true rfl) ⟨⟨rfl, rfl⟩, Nat.le_of_ble_eq_true rfl, Nat.le_of_ble_eq_true rfl⟩ ⟨Nat.zero_le _, Nat.zero_le _⟩ dX5_join_34 (fun H locs hP hD hS => ?_)
    refine q_top (y := nI (q_n (g 22 i))) ((hO i (by omega)).eq (by omega)) ?_
    refine lv_aload_n hx hb dX5_join_37 rfl (lv_at hl 0 rfl) ?_
    refine q_get hx hb hT hown hK hP kw_X5 0 rfl rfl 11 (by decide) kf_X5_59 rfl (v := .ref (ad 72)) rfl dX5_join_38 ?_
    refine lv_iload_n hx hb dX5_join_41 rfl (lv_at hl 2 rfl) ?_
    refine q_callIS (As := [.int (nI j)]) (r := (g 22) j) (wc := psW cA ad g z) (w1 := psW cA ad g z) (ws1 := rlW cA ad g z) hx hb hml hown hT hK hP hD hS hA (c_X2_ownerOf l D cA ad g z j (show j < 16 by omega)) k_X2_ownerOf kl_X5_164 (q0 := 0) rfl rfl rfl (rl_a cA ad g z ++ yrW cA ad g z) (gpW cA ad g z) (List.append_assoc _ _ _).symm (rl_p rfl rfl rfl) ((psW_adr _ _ _ _).trans (psW_adr _ _ _ _).symm) hl rfl rfl (Nat.le_of_ble_eq_true rfl) ⟨⟨rfl, rfl⟩, Nat.le_of_ble_eq_true rfl, Nat.le_of_ble_eq_true rfl⟩ ⟨Nat.zero_le _, Nat.zero_le _⟩ dX5_join_42 (fun H locs hP hD hS => ?_)
    refine q_top (y := nI (q_n (g 22 j))) ((hO j (by omega)).eq (by omega)) ?_
    refine q_callIS (As := [.int (nI (q_n (g 22 i))), .int (nI (q_n (g 22 j)))]) (r := nI (min (q_n (g 22 i)) (q_n (g 22 j)))) (wc := psW cA ad g z) (w1 := psW cA ad (gs (gs g 22 (repl (g 22) (nI (max (q_n (g 22 i)) (q_n (g 22 j)))) (nI (min (q_n (g 22 i)) (q_n (g 22 j)))) 16)) 23 (repl (g 23) (nI (max (q_n (g 22 i)) (q_n (g 22 j)))) (nI (min (q_n (g 22 i)) (q_n (g 22 j)))) (z 2))) z) (ws1 := rlW cA ad (gs (gs g 22 (repl (g 22) (nI (max (q_n (g 22 i)) (q_n (g 22 j)))) (nI (min (q_n (g 22 i)) (q_n (g 22 j)))) 16)) 23 (repl (g 23) (nI (max (q_n (g 22 i)) (q_n (g 22 j)))) (nI (min (q_n (g 22 i)) (q_n (g 22 j)))) (z 2))) z) hx hb hml hown hT hK hP hD hS hA (c_X2_unite l D cA ad g z (q_n (g 22 i)) (q_n (g 22 j)) ((hO i (by omega)).lt (by omega)) ((hO j (by omega)).lt (by omega)) (show (z 2) ≤ 40 by omega)) k_X2_unite kl_X5_167 (q0 := 0) rfl rfl rfl (rl_a cA ad g z ++ yrW cA ad g z) (gpW cA ad g z) (List.append_assoc _ _ _).symm (rl_p rfl rfl rfl) ((psW_adr _ _ _ _).trans (psW_adr _ _ _ _).symm) hl rfl rfl (Nat.le_of_ble_eq_true rfl) ⟨⟨rfl, rfl⟩, Nat.le_of_ble_eq_true rfl, Nat.le_of_ble_eq_true rfl⟩ ⟨Nat.zero_le _, Nat.zero_le _⟩ dX5_join_45 (fun H locs hP hD hS => ?_)
    obtain ⟨nF45_22, enF45_22⟩ : ∃ y : Nat → Int32, y = repl (g 22) (nI (max (q_n (g 22 i)) (q_n (g 22 j)))) (nI (min (q_n (g 22 i)) (q_n (g 22 j)))) 16 := ⟨_, rfl⟩
    have hP : va_P D vwCl (rlW cA ad (gs (gs g 22 nF45_22) 23 (repl (g 23) (nI (max (q_n (g 22 i)) (q_n (g 22 j)))) (nI (min (q_n (g 22 i)) (q_n (g 22 j)))) (z 2))) z) H := by rw [enF45_22]; exact hP
    have hD : va_D A (rlW cA ad (gs (gs g 22 nF45_22) 23 (repl (g 23) (nI (max (q_n (g 22 i)) (q_n (g 22 j)))) (nI (min (q_n (g 22 i)) (q_n (g 22 j)))) (z 2))) z) := by rw [enF45_22]; exact hD
    obtain ⟨nF45_23, enF45_23⟩ : ∃ y : Nat → Int32, y = repl (g 23) (nI (max (q_n (g 22 i)) (q_n (g 22 j)))) (nI (min (q_n (g 22 i)) (q_n (g 22 j)))) (z 2) := ⟨_, rfl⟩
    have hP : va_P D vwCl (rlW cA ad (gs (gs g 22 nF45_22) 23 nF45_23) z) H := by rw [enF45_23]; exact hP
    have hD : va_D A (rlW cA ad (gs (gs g 22 nF45_22) 23 nF45_23) z) := by rw [enF45_23]; exact hD
    rw [enF45_23] at hP hD
    rw [enF45_22] at hP hD
    exact q_iret hx hb hr hlk (by rfl) hP hS dX5_join_48
  · have c_12 := nI_eq0 (a := raG g (z 0) i j) (b := 0) (by omega) (by omega) c_12
    exfalso; omega
abbrev rm_X5_joinx : Room := { frames := 8, cells := 1, slots := 6, locals := 125 }
set_option maxRecDepth 100000 in
set_option maxHeartbeats 4000000 in
theorem c_X5_joinx (l : Launch) (htr : l.stackTraces = false) (D : va_G) (cA : ClassId) (ad : Nat → Nat) (g : Nat → Nat → Int32) (z : Nat → Nat) (x : Int32) (y : Int32) (h1 : ¬ q_r x (z 0)) (hc : (z 0) ≤ 16) : q_CX l yX5_join [Cond.code yX5_join cX5_join 3 (some .int)] rm_X5_joinx D cA [.ref (ad 70), .int x, .int y] (rlW cA ad g z) "java/lang/IndexOutOfBoundsException" (rlW cA ad g z) := by
  refine q_startX RX5 (by decide +kernel) rfl (Nat.le_of_ble_eq_true rfl) ?_
  intro p e s m below meth c A args H locs ls hx hb hr hml hown hT hlk hP hK hD hA hS hl hout hX hZ
  have hl : lv_has ls 3 [(0, .ref (ad 70)), (1, .int x), (2, .int y)] := hl
  refine lv_aload_n hx hb dX5_join_0 rfl (lv_at hl 0 rfl) ?_
  refine lv_iload_n hx hb dX5_join_1 rfl (lv_at hl 1 rfl) ?_
  refine lv_iload_n hx hb dX5_join_2 rfl (lv_at hl 2 rfl) ?_
  exact q_callXW (As := [.int x, .int y]) hx hb hml hown hT hK hP hD hS hA hout hlk hX hZ (c_X5_needTwoMentionsx l htr D cA ad g z x y h1 (show (z 0) ≤ 16 by omega)) k_X5_needTwoMentions kl_X5_115 (q0 := 0) rfl rfl rfl hl rfl rfl (Nat.le_of_ble_eq_true rfl) ⟨⟨rfl, rfl⟩, Nat.le_of_ble_eq_true rfl, Nat.le_of_ble_eq_true rfl⟩ ⟨Nat.le_of_ble_eq_true rfl, Nat.le_of_ble_eq_true rfl⟩ dX5_join_3
abbrev rm_X5_joinx2 : Room := { frames := 8, cells := 1, slots := 6, locals := 125 }
set_option maxRecDepth 100000 in
set_option maxHeartbeats 4000000 in
theorem c_X5_joinx2 (l : Launch) (htr : l.stackTraces = false) (D : va_G) (cA : ClassId) (ad : Nat → Nat) (g : Nat → Nat → Int32) (z : Nat → Nat) (x : Int32) (y : Int32) (h1 : q_r x (z 0)) (h2 : ¬ q_r y (z 0)) (hc : (z 0) ≤ 16) : q_CX l yX5_join [Cond.code yX5_join cX5_join 3 (some .int)] rm_X5_joinx2 D cA [.ref (ad 70), .int x, .int y] (rlW cA ad g z) "java/lang/IndexOutOfBoundsException" (rlW cA ad g z) := by
  refine q_startX RX5 (by decide +kernel) rfl (Nat.le_of_ble_eq_true rfl) ?_
  intro p e s m below meth c A args H locs ls hx hb hr hml hown hT hlk hP hK hD hA hS hl hout hX hZ
  have hl : lv_has ls 3 [(0, .ref (ad 70)), (1, .int x), (2, .int y)] := hl
  refine lv_aload_n hx hb dX5_join_0 rfl (lv_at hl 0 rfl) ?_
  refine lv_iload_n hx hb dX5_join_1 rfl (lv_at hl 1 rfl) ?_
  refine lv_iload_n hx hb dX5_join_2 rfl (lv_at hl 2 rfl) ?_
  exact q_callXW (As := [.int x, .int y]) hx hb hml hown hT hK hP hD hS hA hout hlk hX hZ (c_X5_needTwoMentionsx2 l htr D cA ad g z x y h1 h2 (show (z 0) ≤ 16 by omega)) k_X5_needTwoMentions kl_X5_115 (q0 := 0) rfl rfl rfl hl rfl rfl (Nat.le_of_ble_eq_true rfl) ⟨⟨rfl, rfl⟩, Nat.le_of_ble_eq_true rfl, Nat.le_of_ble_eq_true rfl⟩ ⟨Nat.le_of_ble_eq_true rfl, Nat.le_of_ble_eq_true rfl⟩ dX5_join_3
abbrev rm_X5_joinx3 : Room := { frames := 8, cells := 1, slots := 6, locals := 125 }
set_option maxRecDepth 100000 in
set_option maxHeartbeats 4000000 in
theorem c_X5_joinx3 (l : Launch) (htr : l.stackTraces = false) (D : va_G) (cA : ClassId) (ad : Nat → Nat) (g : Nat → Nat → Int32) (z : Nat → Nat) (x : Int32) (y : Int32) (h1 : q_r x (z 0)) (h2 : q_r y (z 0)) (hne : x = y) (hc : (z 0) ≤ 16) : q_CX l yX5_join [Cond.code yX5_join cX5_join 3 (some .int)] rm_X5_joinx3 D cA [.ref (ad 70), .int x, .int y] (rlW cA ad g z) "java/lang/IllegalArgumentException" (rlW cA ad g z) := by
  refine q_startX RX5 (by decide +kernel) rfl (Nat.le_of_ble_eq_true rfl) ?_
  intro p e s m below meth c A args H locs ls hx hb hr hml hown hT hlk hP hK hD hA hS hl hout hX hZ
  have hl : lv_has ls 3 [(0, .ref (ad 70)), (1, .int x), (2, .int y)] := hl
  refine lv_aload_n hx hb dX5_join_0 rfl (lv_at hl 0 rfl) ?_
  refine lv_iload_n hx hb dX5_join_1 rfl (lv_at hl 1 rfl) ?_
  refine lv_iload_n hx hb dX5_join_2 rfl (lv_at hl 2 rfl) ?_
  exact q_callXW (As := [.int x, .int y]) hx hb hml hown hT hK hP hD hS hA hout hlk hX hZ (c_X5_needTwoMentionsx3 l htr D cA ad g z x y h1 h2 hne (show (z 0) ≤ 16 by omega)) k_X5_needTwoMentions kl_X5_115 (q0 := 0) rfl rfl rfl hl rfl rfl (Nat.le_of_ble_eq_true rfl) ⟨⟨rfl, rfl⟩, Nat.le_of_ble_eq_true rfl, Nat.le_of_ble_eq_true rfl⟩ ⟨Nat.le_of_ble_eq_true rfl, Nat.le_of_ble_eq_true rfl⟩ dX5_join_3
abbrev rm_X5_joinx4 : Room := { frames := 6, cells := 1, slots := 6, locals := 139 }
set_option maxRecDepth 100000 in
set_option maxHeartbeats 4000000 in
theorem c_X5_joinx4 (l : Launch) (htr : l.stackTraces = false) (D : va_G) (cA : ClassId) (ad : Nat → Nat) (g : Nat → Nat → Int32) (z : Nat → Nat) (i : Nat) (j : Nat) (hi : i < (z 0)) (hj : j < (z 0)) (hc : (z 0) ≤ 16) (hne : ¬ i = j) (hra : ¬ raG g (z 0) i j = 0) : q_CX l yX5_join [Cond.code yX5_join cX5_join 3 (some .int)] rm_X5_joinx4 D cA [.ref (ad 70), .int (nI i), .int (nI j)] (rlW cA ad g z) "java/lang/IllegalStateException" (rlW cA ad g z) := by
  refine q_startX RX5 (by decide +kernel) rfl (Nat.le_of_ble_eq_true rfl) ?_
  intro p e s m below meth c A args H locs ls hx hb hr hml hown hT hlk hP hK hD hA hS hl hout hX hZ
  have hl : lv_has ls 3 [(0, .ref (ad 70)), (1, .int (nI i)), (2, .int (nI j))] := hl
  have hrg := raG_le g (z 0) i j
  refine lv_aload_n hx hb dX5_join_0 rfl (lv_at hl 0 rfl) ?_
  refine lv_iload_n hx hb dX5_join_1 rfl (lv_at hl 1 rfl) ?_
  refine lv_iload_n hx hb dX5_join_2 rfl (lv_at hl 2 rfl) ?_
  refine q_callVW (As := [.int (nI i), .int (nI j)]) (w1 := rlW cA ad g z) hx hb hml hown hT hK hP hD hS hA (c_X5_needTwoMentions l D cA ad g z (nI i) (nI j) (q_r_nI (by omega)) (q_r_nI (by omega)) (fun h => by have := nI_eq1 (by omega) (by omega) h; omega) (show (z 0) ≤ 16 by omega)) k_X5_needTwoMentions kl_X5_115 (q0 := 0) rfl rfl rfl ((rlW_adr _ _ _ _).trans (rlW_adr _ _ _ _).symm) hl rfl rfl (Nat.le_of_ble_eq_true rfl) ⟨⟨rfl, rfl⟩, Nat.le_of_ble_eq_true rfl, Nat.le_of_ble_eq_true rfl⟩ ⟨Nat.zero_le _, Nat.zero_le _⟩ dX5_join_3 (fun H locs hP hD hS => ?_)
  refine lv_aload_n hx hb dX5_join_6 rfl (lv_at hl 0 rfl) ?_
  refine lv_iload_n hx hb dX5_join_7 rfl (lv_at hl 1 rfl) ?_
  refine lv_iload_n hx hb dX5_join_8 rfl (lv_at hl 2 rfl) ?_
  refine q_callIW (As := [.int (nI i), .int (nI j)]) (r := nI (raG g (z 0) i j)) (w1 := rlW cA ad g z) hx hb hml hown hT hK hP hD hS hA (c_X5_reasonAgainst l D cA ad g z i j (show i < 16 by omega) (show j < 16 by omega) (show (z 0) ≤ 16 by omega)) k_X5_reasonAgainst kl_X5_159 (q0 := 0) rfl rfl rfl ((rlW_adr _ _ _ _).trans (rlW_adr _ _ _ _).symm) hl rfl rfl (Nat.le_of_ble_eq_true rfl) ⟨⟨rfl, rfl⟩, Nat.le_of_ble_eq_true rfl, Nat.le_of_ble_eq_true rfl⟩ ⟨Nat.zero_le _, Nat.zero_le _⟩ dX5_join_9 (fun H locs hP hD hS => ?_)
  refine lv_if_eq (tgt := 25) hx hb dX5_join_12 (by decide) (fun c_12 => ?_) (fun c_12 => ?_)
  · have c_12 := nI_eq1 (a := raG g (z 0) i j) (b := 0) (by omega) (by omega) c_12
    exfalso; omega
  · have c_12 := nI_eq0 (a := raG g (z 0) i j) (b := 0) (by omega) (by omega) c_12
    exact q_throw (text := "the two cannot be joined") hx hb htr hml hown hT hX hZ hP hS hl hout hlk kx_X5_91 ki_java_lang_IllegalStateException (by decide +kernel) q_ok_ise (by decide +kernel) dX5_join_15 dX5_join_18 dX5_join_19 dX5_join_21 dX5_join_24 ⟨Nat.le_of_ble_eq_true rfl, Nat.le_of_ble_eq_true rfl, Nat.le_of_ble_eq_true rfl, Nat.le_of_ble_eq_true rfl⟩
abbrev rm_X5_split : Room := { frames := 3, cells := 0, slots := 0, locals := 65 }
set_option maxRecDepth 100000 in
set_option maxHeartbeats 4000000 in
theorem c_X5_split (l : Launch) (D : va_G) (cA : ClassId) (ad : Nat → Nat) (g : Nat → Nat → Int32) (z : Nat → Nat) (k : Nat) (hk : k < (z 0)) (hc : (z 0) ≤ 16) (hcn : 2 ≤ cntN (g 22) (g 22 k) (z 0)) (hz40 : (z 2) < 40) : q_CI l yX5_split [Cond.code yX5_split cX5_split 2 (some .int)] rm_X5_split D cA [.ref (ad 70), .int (nI k)] (rlW cA ad g z) (nI (z 2)) (rlW cA ad (gs (gs g 22 (upd (g 22) k (nI (z 2)))) 23 (upd (g 23) (z 2) (nI (z 2)))) (zs z 2 ((z 2) + 1))) := by
  refine q_startI RX5 (by decide +kernel) rfl (Nat.le_of_ble_eq_true rfl) ?_
  intro p e s m below meth c A args H locs ls hx hb hr hml hown hT hlk hP hK hD hA hS hl
  have hl : lv_has ls 2 [(0, .ref (ad 70)), (1, .int (nI k))] := hl
  have hcl := cntN_le (g 22) (g 22 k) (z 0)
  refine lv_aload_n hx hb dX5_split_0 rfl (lv_at hl 0 rfl) ?_
  refine lv_iload_n hx hb dX5_split_1 rfl (lv_at hl 1 rfl) ?_
  refine q_callVW (As := [.int (nI k)]) (w1 := rlW cA ad g z) hx hb hml hown hT hK hP hD hS hA (c_X5_needMention l D cA ad g z (nI k) (q_r_nI (by omega)) (show (z 0) ≤ 16 by omega)) k_X5_needMention kl_X5_131 (q0 := 0) rfl rfl rfl ((rlW_adr _ _ _ _).trans (rlW_adr _ _ _ _).symm) hl rfl rfl (Nat.le_of_ble_eq_true rfl) ⟨⟨rfl, rfl⟩, Nat.le_of_ble_eq_true rfl, Nat.le_of_ble_eq_true rfl⟩ ⟨Nat.zero_le _, Nat.zero_le _⟩ dX5_split_2 (fun H locs hP hD hS => ?_)
  refine lv_aload_n hx hb dX5_split_5 rfl (lv_at hl 0 rfl) ?_
  refine lv_aload_n hx hb dX5_split_6 rfl (lv_at hl 0 rfl) ?_
  refine q_get hx hb hT hown hK hP kw_X5 0 rfl rfl 11 (by decide) kf_X5_59 rfl (v := .ref (ad 72)) rfl dX5_split_7 ?_
  refine lv_iload_n hx hb dX5_split_10 rfl (lv_at hl 1 rfl) ?_
  refine q_callIS (As := [.int (nI k)]) (r := (g 22) k) (wc := psW cA ad g z) (w1 := psW cA ad g z) (ws1 := rlW cA ad g z) hx hb hml hown hT hK hP hD hS hA (c_X2_ownerOf l D cA ad g z k (show k < 16 by omega)) k_X2_ownerOf kl_X5_164 (q0 := 0) rfl rfl rfl (rl_a cA ad g z ++ yrW cA ad g z) (gpW cA ad g z) (List.append_assoc _ _ _).symm (rl_p rfl rfl rfl) ((psW_adr _ _ _ _).trans (psW_adr _ _ _ _).symm) hl rfl rfl (Nat.le_of_ble_eq_true rfl) ⟨⟨rfl, rfl⟩, Nat.le_of_ble_eq_true rfl, Nat.le_of_ble_eq_true rfl⟩ ⟨Nat.zero_le _, Nat.zero_le _⟩ dX5_split_11 (fun H locs hP hD hS => ?_)
  refine q_callIW (As := [.int ((g 22) k)]) (r := nI (cntN (g 22) ((g 22) k) (z 0))) (w1 := rlW cA ad g z) hx hb hml hown hT hK hP hD hS hA (c_X5_mentionsOf l D cA ad g z ((g 22) k) (show (z 0) ≤ 16 by omega)) k_X5_mentionsOf kl_X5_170 (q0 := 0) rfl rfl rfl ((rlW_adr _ _ _ _).trans (rlW_adr _ _ _ _).symm) hl rfl rfl (Nat.le_of_ble_eq_true rfl) ⟨⟨rfl, rfl⟩, Nat.le_of_ble_eq_true rfl, Nat.le_of_ble_eq_true rfl⟩ ⟨Nat.zero_le _, Nat.zero_le _⟩ dX5_split_14 (fun H locs hP hD hS => ?_)
  refine lv_iconst (v := nI 2) hx hb dX5_split_17 (by decide +kernel) ?_
  refine lv_icmp_ge (tgt := 31) hx hb dX5_split_18 (by decide) (fun c_18 => ?_) (fun c_18 => ?_)
  · have c_18 := nI_le1 (a := 2) (b := cntN (g 22) ((g 22) k) (z 0)) (by omega) (by omega) c_18
    refine lv_aload_n hx hb dX5_split_31 rfl (lv_at hl 0 rfl) ?_
    refine q_callVW (As := []) (w1 := rlW cA ad g z) hx hb hml hown hT hK hP hD hS hA (c_X5_needRoomForPerson l D cA ad g z (show (z 2) < 40 by omega)) k_X5_needRoomForPerson kl_X5_98 (q0 := 0) rfl rfl rfl ((rlW_adr _ _ _ _).trans (rlW_adr _ _ _ _).symm) hl rfl rfl (Nat.le_of_ble_eq_true rfl) ⟨⟨rfl, rfl⟩, Nat.le_of_ble_eq_true rfl, Nat.le_of_ble_eq_true rfl⟩ ⟨Nat.zero_le _, Nat.zero_le _⟩ dX5_split_32 (fun H locs hP hD hS => ?_)
    refine lv_aload_n hx hb dX5_split_35 rfl (lv_at hl 0 rfl) ?_
    refine q_get hx hb hT hown hK hP kw_X5 0 rfl rfl 11 (by decide) kf_X5_59 rfl (v := .ref (ad 72)) rfl dX5_split_36 ?_
    refine lv_iload_n hx hb dX5_split_39 rfl (lv_at hl 1 rfl) ?_
    refine q_callIS (As := [.int (nI k)]) (r := nI (z 2)) (wc := psW cA ad g z) (w1 := psW cA ad (gs (gs g 22 (upd (g 22) k (nI (z 2)))) 23 (upd (g 23) (z 2) (nI (z 2)))) (zs z 2 ((z 2) + 1))) (ws1 := rlW cA ad (gs (gs g 22 (upd (g 22) k (nI (z 2)))) 23 (upd (g 23) (z 2) (nI (z 2)))) (zs z 2 ((z 2) + 1))) hx hb hml hown hT hK hP hD hS hA (c_X2_moveToNew l D cA ad g z k (show k < 16 by omega) (show (z 2) < 40 by omega)) k_X2_moveToNew kl_X5_101 (q0 := 0) rfl rfl rfl (rl_a cA ad g z ++ yrW cA ad g z) (gpW cA ad g z) (List.append_assoc _ _ _).symm (rl_p rfl rfl rfl) ((psW_adr _ _ _ _).trans (psW_adr _ _ _ _).symm) hl rfl rfl (Nat.le_of_ble_eq_true rfl) ⟨⟨rfl, rfl⟩, Nat.le_of_ble_eq_true rfl, Nat.le_of_ble_eq_true rfl⟩ ⟨Nat.zero_le _, Nat.zero_le _⟩ dX5_split_40 (fun H locs hP hD hS => ?_)
    obtain ⟨nF40_22, enF40_22⟩ : ∃ y : Nat → Int32, y = upd (g 22) k (nI (z 2)) := ⟨_, rfl⟩
    have hP : va_P D vwCl (rlW cA ad (gs (gs g 22 nF40_22) 23 (upd (g 23) (z 2) (nI (z 2)))) (zs z 2 ((z 2) + 1))) H := by rw [enF40_22]; exact hP
    have hD : va_D A (rlW cA ad (gs (gs g 22 nF40_22) 23 (upd (g 23) (z 2) (nI (z 2)))) (zs z 2 ((z 2) + 1))) := by rw [enF40_22]; exact hD
    obtain ⟨nF40_23, enF40_23⟩ : ∃ y : Nat → Int32, y = upd (g 23) (z 2) (nI (z 2)) := ⟨_, rfl⟩
    have hP : va_P D vwCl (rlW cA ad (gs (gs g 22 nF40_22) 23 nF40_23) (zs z 2 ((z 2) + 1))) H := by rw [enF40_23]; exact hP
    have hD : va_D A (rlW cA ad (gs (gs g 22 nF40_22) 23 nF40_23) (zs z 2 ((z 2) + 1))) := by rw [enF40_23]; exact hD
    rw [enF40_23] at hP hD
    rw [enF40_22] at hP hD
    exact q_iret hx hb hr hlk (by rfl) hP hS dX5_split_43
  · have c_18 := nI_le0 (a := 2) (b := cntN (g 22) ((g 22) k) (z 0)) (by omega) (by omega) c_18
    exfalso; omega
