theorem q_r_ge {x : Int32} {n : Nat} (h : q_r x n) (hn : n < 2147483648) : ¬ x < 0 := ((q_r.iff hn).2 h).1
theorem q_r_lt {x : Int32} {n : Nat} (h : q_r x n) (hn : n < 2147483648) : x < nI n := ((q_r.iff hn).2 h).2
abbrev rm_X5_needPost : Room := { frames := 0, cells := 0, slots := 0, locals := 0 }
set_option maxRecDepth 100000 in
set_option maxHeartbeats 4000000 in
theorem c_X5_needPost (l : Launch) (D : va_G) (cA : ClassId) (w : Int32) (hw : q_r w 8) : q_CV l yX5_needPost [Cond.code yX5_needPost cX5_needPost 1 none] rm_X5_needPost D cA [.int w] ([] : va_W) ([] : va_W) := by
  refine q_startV RX5 (by decide +kernel) rfl (Nat.le_of_ble_eq_true rfl) ?_
  intro p e s m below meth c A args H locs ls hx hb hr hml hown hT hlk hP hK hD hA hS hl
  have hl : lv_has ls 1 [(0, .int w)] := hl
  refine lv_iload_n hx hb dX5_needPost_0 rfl (lv_at hl 0 rfl) ?_
  refine lv_if_lt (tgt := 10) hx hb dX5_needPost_1 (by decide) (fun c_1 => ?_) (fun c_1 => ?_)
  · exact absurd c_1 (q_r_ge hw (by omega))
  · refine lv_iload_n hx hb dX5_needPost_4 rfl (lv_at hl 0 rfl) ?_
    refine lv_bipush (v := nI 8) hx hb dX5_needPost_5 (by decide +kernel) ?_
    refine lv_icmp_lt (tgt := 20) hx hb dX5_needPost_7 (by decide) (fun c_7 => ?_) (fun c_7 => ?_)
    · exact q_vret hx hb hr hlk hP hS dX5_needPost_20
    · exact absurd (q_r_lt hw (by omega)) c_7
abbrev rm_X5_needPostx : Room := { frames := 6, cells := 1, slots := 6, locals := 82 }
set_option maxRecDepth 100000 in
set_option maxHeartbeats 4000000 in
theorem c_X5_needPostx (l : Launch) (htr : l.stackTraces = false) (D : va_G) (cA : ClassId) (w : Int32) (hw : ¬ q_r w 8) : q_CX l yX5_needPost [Cond.code yX5_needPost cX5_needPost 1 none] rm_X5_needPostx D cA [.int w] ([] : va_W) "java/lang/IndexOutOfBoundsException" ([] : va_W) := by
  refine q_startX RX5 (by decide +kernel) rfl (Nat.le_of_ble_eq_true rfl) ?_
  intro p e s m below meth c A args H locs ls hx hb hr hml hown hT hlk hP hK hD hA hS hl hout hX hZ
  have hl : lv_has ls 1 [(0, .int w)] := hl
  refine lv_iload_n hx hb dX5_needPost_0 rfl (lv_at hl 0 rfl) ?_
  refine lv_if_lt (tgt := 10) hx hb dX5_needPost_1 (by decide) (fun c_1 => ?_) (fun c_1 => ?_)
  · exact q_throw (text := "there is no such post") hx hb htr hml hown hT hX hZ hP hS hl hout hlk kx_X5_181 ki_java_lang_IndexOutOfBoundsException (by decide +kernel) q_ok_iob (by decide +kernel) dX5_needPost_10 dX5_needPost_13 dX5_needPost_14 dX5_needPost_16 dX5_needPost_19 ⟨Nat.le_of_ble_eq_true rfl, Nat.le_of_ble_eq_true rfl, Nat.le_of_ble_eq_true rfl, Nat.le_of_ble_eq_true rfl⟩
  · refine lv_iload_n hx hb dX5_needPost_4 rfl (lv_at hl 0 rfl) ?_
    refine lv_bipush (v := nI 8) hx hb dX5_needPost_5 (by decide +kernel) ?_
    refine lv_icmp_lt (tgt := 20) hx hb dX5_needPost_7 (by decide) (fun c_7 => ?_) (fun c_7 => ?_)
    · exact absurd (q_r.of c_1 c_7 (by omega)) hw
    · exact q_throw (text := "there is no such post") hx hb htr hml hown hT hX hZ hP hS hl hout hlk kx_X5_181 ki_java_lang_IndexOutOfBoundsException (by decide +kernel) q_ok_iob (by decide +kernel) dX5_needPost_10 dX5_needPost_13 dX5_needPost_14 dX5_needPost_16 dX5_needPost_19 ⟨Nat.le_of_ble_eq_true rfl, Nat.le_of_ble_eq_true rfl, Nat.le_of_ble_eq_true rfl, Nat.le_of_ble_eq_true rfl⟩
abbrev rm_X5_needUnlike : Room := { frames := 0, cells := 0, slots := 0, locals := 0 }
set_option maxRecDepth 100000 in
set_option maxHeartbeats 4000000 in
theorem c_X5_needUnlike (l : Launch) (D : va_G) (cA : ClassId) (x : Int32) (y : Int32) (hne : ¬ x = y) : q_CV l yX5_needUnlike [Cond.code yX5_needUnlike cX5_needUnlike 2 none] rm_X5_needUnlike D cA [.int x, .int y] ([] : va_W) ([] : va_W) := by
  refine q_startV RX5 (by decide +kernel) rfl (Nat.le_of_ble_eq_true rfl) ?_
  intro p e s m below meth c A args H locs ls hx hb hr hml hown hT hlk hP hK hD hA hS hl
  have hl : lv_has ls 2 [(0, .int x), (1, .int y)] := hl
  refine lv_iload_n hx hb dX5_needUnlike_0 rfl (lv_at hl 0 rfl) ?_
  refine lv_iload_n hx hb dX5_needUnlike_1 rfl (lv_at hl 1 rfl) ?_
  refine lv_icmp_ne (tgt := 15) hx hb dX5_needUnlike_2 (by decide) (fun c_2 => ?_) (fun c_2 => ?_)
  · exact q_vret hx hb hr hlk hP hS dX5_needUnlike_15
  · exact absurd c_2 hne
abbrev rm_X5_needUnlikex : Room := { frames := 6, cells := 1, slots := 6, locals := 82 }
set_option maxRecDepth 100000 in
set_option maxHeartbeats 4000000 in
theorem c_X5_needUnlikex (l : Launch) (htr : l.stackTraces = false) (D : va_G) (cA : ClassId) (x : Int32) (y : Int32) (hne : x = y) : q_CX l yX5_needUnlike [Cond.code yX5_needUnlike cX5_needUnlike 2 none] rm_X5_needUnlikex D cA [.int x, .int y] ([] : va_W) "java/lang/IllegalArgumentException" ([] : va_W) := by
  refine q_startX RX5 (by decide +kernel) rfl (Nat.le_of_ble_eq_true rfl) ?_
  intro p e s m below meth c A args H locs ls hx hb hr hml hown hT hlk hP hK hD hA hS hl hout hX hZ
  have hl : lv_has ls 2 [(0, .int x), (1, .int y)] := hl
  refine lv_iload_n hx hb dX5_needUnlike_0 rfl (lv_at hl 0 rfl) ?_
  refine lv_iload_n hx hb dX5_needUnlike_1 rfl (lv_at hl 1 rfl) ?_
  refine lv_icmp_ne (tgt := 15) hx hb dX5_needUnlike_2 (by decide) (fun c_2 => ?_) (fun c_2 => ?_)
  · exact absurd hne c_2
  · exact q_throw (text := "both are the same") hx hb htr hml hown hT hX hZ hP hS hl hout hlk kx_X5_221 ki_java_lang_IllegalArgumentException (by decide +kernel) q_ok_iae (by decide +kernel) dX5_needUnlike_5 dX5_needUnlike_8 dX5_needUnlike_9 dX5_needUnlike_11 dX5_needUnlike_14 ⟨Nat.le_of_ble_eq_true rfl, Nat.le_of_ble_eq_true rfl, Nat.le_of_ble_eq_true rfl, Nat.le_of_ble_eq_true rfl⟩
abbrev rm_X5_needWithin : Room := { frames := 0, cells := 0, slots := 0, locals := 0 }
set_option maxRecDepth 100000 in
set_option maxHeartbeats 4000000 in
theorem c_X5_needWithin (l : Launch) (D : va_G) (cA : ClassId) (x : Int32) (lo : Int32) (hi : Int32) (h1 : ¬ x < lo) (h2 : x ≤ hi) : q_CV l yX5_needWithin [Cond.code yX5_needWithin cX5_needWithin 3 none] rm_X5_needWithin D cA [.int x, .int lo, .int hi] ([] : va_W) ([] : va_W) := by
  refine q_startV RX5 (by decide +kernel) rfl (Nat.le_of_ble_eq_true rfl) ?_
  intro p e s m below meth c A args H locs ls hx hb hr hml hown hT hlk hP hK hD hA hS hl
  have hl : lv_has ls 3 [(0, .int x), (1, .int lo), (2, .int hi)] := hl
  refine lv_iload_n hx hb dX5_needWithin_0 rfl (lv_at hl 0 rfl) ?_
  refine lv_iload_n hx hb dX5_needWithin_1 rfl (lv_at hl 1 rfl) ?_
  refine lv_icmp_lt (tgt := 10) hx hb dX5_needWithin_2 (by decide) (fun c_2 => ?_) (fun c_2 => ?_)
  · exact absurd c_2 h1
  · refine lv_iload_n hx hb dX5_needWithin_5 rfl (lv_at hl 0 rfl) ?_
    refine lv_iload_n hx hb dX5_needWithin_6 rfl (lv_at hl 2 rfl) ?_
    refine lv_icmp_le (tgt := 20) hx hb dX5_needWithin_7 (by decide) (fun c_7 => ?_) (fun c_7 => ?_)
    · exact q_vret hx hb hr hlk hP hS dX5_needWithin_20
    · exact absurd h2 c_7
abbrev rm_X5_needWithinx : Room := { frames := 6, cells := 1, slots := 6, locals := 82 }
set_option maxRecDepth 100000 in
set_option maxHeartbeats 4000000 in
theorem c_X5_needWithinx (l : Launch) (htr : l.stackTraces = false) (D : va_G) (cA : ClassId) (x : Int32) (lo : Int32) (hi : Int32) (h1 : ¬ (¬ x < lo ∧ x ≤ hi)) : q_CX l yX5_needWithin [Cond.code yX5_needWithin cX5_needWithin 3 none] rm_X5_needWithinx D cA [.int x, .int lo, .int hi] ([] : va_W) "java/lang/IllegalArgumentException" ([] : va_W) := by
  refine q_startX RX5 (by decide +kernel) rfl (Nat.le_of_ble_eq_true rfl) ?_
  intro p e s m below meth c A args H locs ls hx hb hr hml hown hT hlk hP hK hD hA hS hl hout hX hZ
  have hl : lv_has ls 3 [(0, .int x), (1, .int lo), (2, .int hi)] := hl
  refine lv_iload_n hx hb dX5_needWithin_0 rfl (lv_at hl 0 rfl) ?_
  refine lv_iload_n hx hb dX5_needWithin_1 rfl (lv_at hl 1 rfl) ?_
  refine lv_icmp_lt (tgt := 10) hx hb dX5_needWithin_2 (by decide) (fun c_2 => ?_) (fun c_2 => ?_)
  · exact q_throw (text := "an argument is out of its range") hx hb htr hml hown hT hX hZ hP hS hl hout hlk kx_X5_221 ki_java_lang_IllegalArgumentException (by decide +kernel) q_ok_iae (by decide +kernel) dX5_needWithin_10 dX5_needWithin_13 dX5_needWithin_14 dX5_needWithin_16 dX5_needWithin_19 ⟨Nat.le_of_ble_eq_true rfl, Nat.le_of_ble_eq_true rfl, Nat.le_of_ble_eq_true rfl, Nat.le_of_ble_eq_true rfl⟩
  · refine lv_iload_n hx hb dX5_needWithin_5 rfl (lv_at hl 0 rfl) ?_
    refine lv_iload_n hx hb dX5_needWithin_6 rfl (lv_at hl 2 rfl) ?_
    refine lv_icmp_le (tgt := 20) hx hb dX5_needWithin_7 (by decide) (fun c_7 => ?_) (fun c_7 => ?_)
    · exact absurd ⟨c_2, c_7⟩ h1
    · exact q_throw (text := "an argument is out of its range") hx hb htr hml hown hT hX hZ hP hS hl hout hlk kx_X5_221 ki_java_lang_IllegalArgumentException (by decide +kernel) q_ok_iae (by decide +kernel) dX5_needWithin_10 dX5_needWithin_13 dX5_needWithin_14 dX5_needWithin_16 dX5_needWithin_19 ⟨Nat.le_of_ble_eq_true rfl, Nat.le_of_ble_eq_true rfl, Nat.le_of_ble_eq_true rfl, Nat.le_of_ble_eq_true rfl⟩
abbrev rm_X5_needYears : Room := { frames := 1, cells := 0, slots := 0, locals := 22 }
set_option maxRecDepth 100000 in
set_option maxHeartbeats 4000000 in
theorem c_X5_needYears (l : Launch) (D : va_G) (cA : ClassId) (lo : Int32) (hi : Int32) (h1 : ¬ lo < nI 0 ∧ lo ≤ nI 999) (h2 : ¬ hi < lo ∧ hi ≤ nI 999) : q_CV l yX5_needYears [Cond.code yX5_needYears cX5_needYears 2 none] rm_X5_needYears D cA [.int lo, .int hi] ([] : va_W) ([] : va_W) := by
  refine q_startV RX5 (by decide +kernel) rfl (Nat.le_of_ble_eq_true rfl) ?_
  intro p e s m below meth c A args H locs ls hx hb hr hml hown hT hlk hP hK hD hA hS hl
  have hl : lv_has ls 2 [(0, .int lo), (1, .int hi)] := hl
  refine lv_iload_n hx hb dX5_needYears_0 rfl (lv_at hl 0 rfl) ?_
  refine lv_iconst (v := nI 0) hx hb dX5_needYears_1 (by decide +kernel) ?_
  refine lv_sipush (v := nI 999) hx hb dX5_needYears_2 (by decide +kernel) ?_
  refine q_callSV (As := [.int lo, .int (nI 0), .int (nI 999)]) hx hb hml hown hT hK hP hD hS hA (c_X5_needWithin l D cA lo (nI 0) (nI 999) h1.1 h1.2) k_X5_needWithin kl_X5_83 hl rfl rfl (Nat.le_of_ble_eq_true rfl) ⟨⟨rfl, rfl⟩, Nat.le_of_ble_eq_true rfl, Nat.le_of_ble_eq_true rfl⟩ ⟨Nat.zero_le _, Nat.zero_le _⟩ dX5_needYears_5 (fun H locs hP hD hS => ?_)
  refine lv_iload_n hx hb dX5_needYears_8 rfl (lv_at hl 1 rfl) ?_
  refine lv_iload_n hx hb dX5_needYears_9 rfl (lv_at hl 0 rfl) ?_
  refine lv_sipush (v := nI 999) hx hb dX5_needYears_10 (by decide +kernel) ?_
  refine q_callSV (As := [.int hi, .int lo, .int (nI 999)]) hx hb hml hown hT hK hP hD hS hA (c_X5_needWithin l D cA hi lo (nI 999) h2.1 h2.2) k_X5_needWithin kl_X5_83 hl rfl rfl (Nat.le_of_ble_eq_true rfl) ⟨⟨rfl, rfl⟩, Nat.le_of_ble_eq_true rfl, Nat.le_of_ble_eq_true rfl⟩ ⟨Nat.zero_le _, Nat.zero_le _⟩ dX5_needYears_13 (fun H locs hP hD hS => ?_)
  exact q_vret hx hb hr hlk hP hS dX5_needYears_16
abbrev rm_X5_needYearsx : Room := { frames := 7, cells := 1, slots := 6, locals := 104 }
set_option maxRecDepth 100000 in
set_option maxHeartbeats 4000000 in
theorem c_X5_needYearsx (l : Launch) (htr : l.stackTraces = false) (D : va_G) (cA : ClassId) (lo : Int32) (hi : Int32) (h1 : ¬ (¬ lo < nI 0 ∧ lo ≤ nI 999)) : q_CX l yX5_needYears [Cond.code yX5_needYears cX5_needYears 2 none] rm_X5_needYearsx D cA [.int lo, .int hi] ([] : va_W) "java/lang/IllegalArgumentException" ([] : va_W) := by
  refine q_startX RX5 (by decide +kernel) rfl (Nat.le_of_ble_eq_true rfl) ?_
  intro p e s m below meth c A args H locs ls hx hb hr hml hown hT hlk hP hK hD hA hS hl hout hX hZ
  have hl : lv_has ls 2 [(0, .int lo), (1, .int hi)] := hl
  refine lv_iload_n hx hb dX5_needYears_0 rfl (lv_at hl 0 rfl) ?_
  refine lv_iconst (v := nI 0) hx hb dX5_needYears_1 (by decide +kernel) ?_
  refine lv_sipush (v := nI 999) hx hb dX5_needYears_2 (by decide +kernel) ?_
  exact q_callXS (As := [.int lo, .int (nI 0), .int (nI 999)]) hx hb hml hown hT hK hP hD hS hA hout hlk hX hZ (c_X5_needWithinx l htr D cA lo (nI 0) (nI 999) h1) k_X5_needWithin kl_X5_83 hl rfl rfl (Nat.le_of_ble_eq_true rfl) ⟨⟨rfl, rfl⟩, Nat.le_of_ble_eq_true rfl, Nat.le_of_ble_eq_true rfl⟩ ⟨Nat.le_of_ble_eq_true rfl, Nat.le_of_ble_eq_true rfl⟩ dX5_needYears_5
abbrev rm_X5_needYearsx2 : Room := { frames := 7, cells := 1, slots := 6, locals := 104 }
set_option maxRecDepth 100000 in
set_option maxHeartbeats 4000000 in
theorem c_X5_needYearsx2 (l : Launch) (htr : l.stackTraces = false) (D : va_G) (cA : ClassId) (lo : Int32) (hi : Int32) (h1 : ¬ lo < nI 0 ∧ lo ≤ nI 999) (h2 : ¬ (¬ hi < lo ∧ hi ≤ nI 999)) : q_CX l yX5_needYears [Cond.code yX5_needYears cX5_needYears 2 none] rm_X5_needYearsx2 D cA [.int lo, .int hi] ([] : va_W) "java/lang/IllegalArgumentException" ([] : va_W) := by
  refine q_startX RX5 (by decide +kernel) rfl (Nat.le_of_ble_eq_true rfl) ?_
  intro p e s m below meth c A args H locs ls hx hb hr hml hown hT hlk hP hK hD hA hS hl hout hX hZ
  have hl : lv_has ls 2 [(0, .int lo), (1, .int hi)] := hl
  refine lv_iload_n hx hb dX5_needYears_0 rfl (lv_at hl 0 rfl) ?_
  refine lv_iconst (v := nI 0) hx hb dX5_needYears_1 (by decide +kernel) ?_
  refine lv_sipush (v := nI 999) hx hb dX5_needYears_2 (by decide +kernel) ?_
  refine q_callSV (As := [.int lo, .int (nI 0), .int (nI 999)]) hx hb hml hown hT hK hP hD hS hA (c_X5_needWithin l D cA lo (nI 0) (nI 999) h1.1 h1.2) k_X5_needWithin kl_X5_83 hl rfl rfl (Nat.le_of_ble_eq_true rfl) ⟨⟨rfl, rfl⟩, Nat.le_of_ble_eq_true rfl, Nat.le_of_ble_eq_true rfl⟩ ⟨Nat.zero_le _, Nat.zero_le _⟩ dX5_needYears_5 (fun H locs hP hD hS => ?_)
  refine lv_iload_n hx hb dX5_needYears_8 rfl (lv_at hl 1 rfl) ?_
  refine lv_iload_n hx hb dX5_needYears_9 rfl (lv_at hl 0 rfl) ?_
  refine lv_sipush (v := nI 999) hx hb dX5_needYears_10 (by decide +kernel) ?_
  exact q_callXS (As := [.int hi, .int lo, .int (nI 999)]) hx hb hml hown hT hK hP hD hS hA hout hlk hX hZ (c_X5_needWithinx l htr D cA hi lo (nI 999) h2) k_X5_needWithin kl_X5_83 hl rfl rfl (Nat.le_of_ble_eq_true rfl) ⟨⟨rfl, rfl⟩, Nat.le_of_ble_eq_true rfl, Nat.le_of_ble_eq_true rfl⟩ ⟨Nat.le_of_ble_eq_true rfl, Nat.le_of_ble_eq_true rfl⟩ dX5_needYears_13
abbrev rm_X5_needDating : Room := { frames := 0, cells := 0, slots := 0, locals := 0 }
set_option maxRecDepth 100000 in
set_option maxHeartbeats 4000000 in
theorem c_X5_needDating (l : Launch) (D : va_G) (cA : ClassId) (x : Int32) (h1 : ¬ x = (-1)) : q_CV l yX5_needDating [Cond.code yX5_needDating cX5_needDating 1 none] rm_X5_needDating D cA [.int x] ([] : va_W) ([] : va_W) := by
  refine q_startV RX5 (by decide +kernel) rfl (Nat.le_of_ble_eq_true rfl) ?_
  intro p e s m below meth c A args H locs ls hx hb hr hml hown hT hlk hP hK hD hA hS hl
  have hl : lv_has ls 1 [(0, .int x)] := hl
  refine lv_iload_n hx hb dX5_needDating_0 rfl (lv_at hl 0 rfl) ?_
  refine lv_iconst (v := (-1)) hx hb dX5_needDating_1 (by decide +kernel) ?_
  refine lv_icmp_ne (tgt := 15) hx hb dX5_needDating_2 (by decide) (fun c_2 => ?_) (fun c_2 => ?_)
  · exact q_vret hx hb hr hlk hP hS dX5_needDating_15
  · exact absurd c_2 h1
abbrev rm_X5_needDatingx : Room := { frames := 6, cells := 1, slots := 6, locals := 82 }
set_option maxRecDepth 100000 in
set_option maxHeartbeats 4000000 in
theorem c_X5_needDatingx (l : Launch) (htr : l.stackTraces = false) (D : va_G) (cA : ClassId) (x : Int32) (h1 : x = (-1)) : q_CX l yX5_needDating [Cond.code yX5_needDating cX5_needDating 1 none] rm_X5_needDatingx D cA [.int x] ([] : va_W) "java/lang/IllegalStateException" ([] : va_W) := by
  refine q_startX RX5 (by decide +kernel) rfl (Nat.le_of_ble_eq_true rfl) ?_
  intro p e s m below meth c A args H locs ls hx hb hr hml hown hT hlk hP hK hD hA hS hl hout hX hZ
  have hl : lv_has ls 1 [(0, .int x)] := hl
  refine lv_iload_n hx hb dX5_needDating_0 rfl (lv_at hl 0 rfl) ?_
  refine lv_iconst (v := (-1)) hx hb dX5_needDating_1 (by decide +kernel) ?_
  refine lv_icmp_ne (tgt := 15) hx hb dX5_needDating_2 (by decide) (fun c_2 => ?_) (fun c_2 => ?_)
  · exact absurd h1 c_2
  · exact q_throw (text := "there would be no dating") hx hb htr hml hown hT hX hZ hP hS hl hout hlk kx_X5_91 ki_java_lang_IllegalStateException (by decide +kernel) q_ok_ise (by decide +kernel) dX5_needDating_5 dX5_needDating_8 dX5_needDating_9 dX5_needDating_11 dX5_needDating_14 ⟨Nat.le_of_ble_eq_true rfl, Nat.le_of_ble_eq_true rfl, Nat.le_of_ble_eq_true rfl, Nat.le_of_ble_eq_true rfl⟩
abbrev rm_X5_needMention : Room := { frames := 0, cells := 0, slots := 0, locals := 0 }
set_option maxRecDepth 100000 in
set_option maxHeartbeats 4000000 in
theorem c_X5_needMention (l : Launch) (D : va_G) (cA : ClassId) (ad : Nat → Nat) (g : Nat → Nat → Int32) (z : Nat → Nat) (w : Int32) (hw : q_r w (z 0)) (hc : (z 0) ≤ 16) : q_CV l yX5_needMention [Cond.code yX5_needMention cX5_needMention 2 none] rm_X5_needMention D cA [.ref (ad 70), .int w] (rlW cA ad g z) (rlW cA ad g z) := by
  refine q_startV RX5 (by decide +kernel) rfl (Nat.le_of_ble_eq_true rfl) ?_
  intro p e s m below meth c A args H locs ls hx hb hr hml hown hT hlk hP hK hD hA hS hl
  have hl : lv_has ls 2 [(0, .ref (ad 70)), (1, .int w)] := hl
  refine lv_iload_n hx hb dX5_needMention_0 rfl (lv_at hl 1 rfl) ?_
  refine lv_if_lt (tgt := 12) hx hb dX5_needMention_1 (by decide) (fun c_1 => ?_) (fun c_1 => ?_)
  · exact absurd c_1 (q_r_ge hw (by omega))
  · refine lv_iload_n hx hb dX5_needMention_4 rfl (lv_at hl 1 rfl) ?_
    refine lv_aload_n hx hb dX5_needMention_5 rfl (lv_at hl 0 rfl) ?_
    refine q_get hx hb hT hown hK hP kw_X5 0 rfl rfl 15 (by decide) kf_X5_87 rfl (v := .int (nI (z 0))) rfl dX5_needMention_6 ?_
    refine lv_icmp_lt (tgt := 22) hx hb dX5_needMention_9 (by decide) (fun c_9 => ?_) (fun c_9 => ?_)
    · exact q_vret hx hb hr hlk hP hS dX5_needMention_22
    · exact absurd (q_r_lt hw (by omega)) c_9
abbrev rm_X5_needMentionx : Room := { frames := 6, cells := 1, slots := 6, locals := 82 }
set_option maxRecDepth 100000 in
set_option maxHeartbeats 4000000 in
theorem c_X5_needMentionx (l : Launch) (htr : l.stackTraces = false) (D : va_G) (cA : ClassId) (ad : Nat → Nat) (g : Nat → Nat → Int32) (z : Nat → Nat) (w : Int32) (hw : ¬ q_r w (z 0)) (hc : (z 0) ≤ 16) : q_CX l yX5_needMention [Cond.code yX5_needMention cX5_needMention 2 none] rm_X5_needMentionx D cA [.ref (ad 70), .int w] (rlW cA ad g z) "java/lang/IndexOutOfBoundsException" (rlW cA ad g z) := by
  refine q_startX RX5 (by decide +kernel) rfl (Nat.le_of_ble_eq_true rfl) ?_
  intro p e s m below meth c A args H locs ls hx hb hr hml hown hT hlk hP hK hD hA hS hl hout hX hZ
  have hl : lv_has ls 2 [(0, .ref (ad 70)), (1, .int w)] := hl
  refine lv_iload_n hx hb dX5_needMention_0 rfl (lv_at hl 1 rfl) ?_
  refine lv_if_lt (tgt := 12) hx hb dX5_needMention_1 (by decide) (fun c_1 => ?_) (fun c_1 => ?_)
  · exact q_throw (text := "there is no such mention") hx hb htr hml hown hT hX hZ hP hS hl hout hlk kx_X5_181 ki_java_lang_IndexOutOfBoundsException (by decide +kernel) q_ok_iob (by decide +kernel) dX5_needMention_12 dX5_needMention_15 dX5_needMention_16 dX5_needMention_18 dX5_needMention_21 ⟨Nat.le_of_ble_eq_true rfl, Nat.le_of_ble_eq_true rfl, Nat.le_of_ble_eq_true rfl, Nat.le_of_ble_eq_true rfl⟩
  · refine lv_iload_n hx hb dX5_needMention_4 rfl (lv_at hl 1 rfl) ?_
    refine lv_aload_n hx hb dX5_needMention_5 rfl (lv_at hl 0 rfl) ?_
    refine q_get hx hb hT hown hK hP kw_X5 0 rfl rfl 15 (by decide) kf_X5_87 rfl (v := .int (nI (z 0))) rfl dX5_needMention_6 ?_
    refine lv_icmp_lt (tgt := 22) hx hb dX5_needMention_9 (by decide) (fun c_9 => ?_) (fun c_9 => ?_)
    · exact absurd (q_r.of c_1 c_9 (by omega)) hw
    · exact q_throw (text := "there is no such mention") hx hb htr hml hown hT hX hZ hP hS hl hout hlk kx_X5_181 ki_java_lang_IndexOutOfBoundsException (by decide +kernel) q_ok_iob (by decide +kernel) dX5_needMention_12 dX5_needMention_15 dX5_needMention_16 dX5_needMention_18 dX5_needMention_21 ⟨Nat.le_of_ble_eq_true rfl, Nat.le_of_ble_eq_true rfl, Nat.le_of_ble_eq_true rfl, Nat.le_of_ble_eq_true rfl⟩
abbrev rm_X5_needTwoMentions : Room := { frames := 1, cells := 0, slots := 0, locals := 21 }
set_option maxRecDepth 100000 in
set_option maxHeartbeats 4000000 in
theorem c_X5_needTwoMentions (l : Launch) (D : va_G) (cA : ClassId) (ad : Nat → Nat) (g : Nat → Nat → Int32) (z : Nat → Nat) (x : Int32) (y : Int32) (h1 : q_r x (z 0)) (h2 : q_r y (z 0)) (hne : ¬ x = y) (hc : (z 0) ≤ 16) : q_CV l yX5_needTwoMentions [Cond.code yX5_needTwoMentions cX5_needTwoMentions 3 none] rm_X5_needTwoMentions D cA [.ref (ad 70), .int x, .int y] (rlW cA ad g z) (rlW cA ad g z) := by
  refine q_startV RX5 (by decide +kernel) rfl (Nat.le_of_ble_eq_true rfl) ?_
  intro p e s m below meth c A args H locs ls hx hb hr hml hown hT hlk hP hK hD hA hS hl
  have hl : lv_has ls 3 [(0, .ref (ad 70)), (1, .int x), (2, .int y)] := hl
  refine lv_aload_n hx hb dX5_needTwoMentions_0 rfl (lv_at hl 0 rfl) ?_
  refine lv_iload_n hx hb dX5_needTwoMentions_1 rfl (lv_at hl 1 rfl) ?_
  refine q_callVW (As := [.int x]) (w1 := rlW cA ad g z) hx hb hml hown hT hK hP hD hS hA (c_X5_needMention l D cA ad g z x h1 (show (z 0) ≤ 16 by omega)) k_X5_needMention kl_X5_131 (q0 := 0) rfl rfl rfl ((rlW_adr _ _ _ _).trans (rlW_adr _ _ _ _).symm) hl rfl rfl (Nat.le_of_ble_eq_true rfl) ⟨⟨rfl, rfl⟩, Nat.le_of_ble_eq_true rfl, Nat.le_of_ble_eq_true rfl⟩ ⟨Nat.zero_le _, Nat.zero_le _⟩ dX5_needTwoMentions_2 (fun H locs hP hD hS => ?_)
  refine lv_aload_n hx hb dX5_needTwoMentions_5 rfl (lv_at hl 0 rfl) ?_
  refine lv_iload_n hx hb dX5_needTwoMentions_6 rfl (lv_at hl 2 rfl) ?_
  refine q_callVW (As := [.int y]) (w1 := rlW cA ad g z) hx hb hml hown hT hK hP hD hS hA (c_X5_needMention l D cA ad g z y h2 (show (z 0) ≤ 16 by omega)) k_X5_needMention kl_X5_131 (q0 := 0) rfl rfl rfl ((rlW_adr _ _ _ _).trans (rlW_adr _ _ _ _).symm) hl rfl rfl (Nat.le_of_ble_eq_true rfl) ⟨⟨rfl, rfl⟩, Nat.le_of_ble_eq_true rfl, Nat.le_of_ble_eq_true rfl⟩ ⟨Nat.zero_le _, Nat.zero_le _⟩ dX5_needTwoMentions_7 (fun H locs hP hD hS => ?_)
  refine lv_iload_n hx hb dX5_needTwoMentions_10 rfl (lv_at hl 1 rfl) ?_
  refine lv_iload_n hx hb dX5_needTwoMentions_11 rfl (lv_at hl 2 rfl) ?_
  refine q_callSV (As := [.int x, .int y]) hx hb hml hown hT hK hP hD hS hA (c_X5_needUnlike l D cA x y hne) k_X5_needUnlike kl_X5_108 hl rfl rfl (Nat.le_of_ble_eq_true rfl) ⟨⟨rfl, rfl⟩, Nat.le_of_ble_eq_true rfl, Nat.le_of_ble_eq_true rfl⟩ ⟨Nat.zero_le _, Nat.zero_le _⟩ dX5_needTwoMentions_12 (fun H locs hP hD hS => ?_)
  exact q_vret hx hb hr hlk hP hS dX5_needTwoMentions_15
abbrev rm_X5_needTwoMentionsx : Room := { frames := 7, cells := 1, slots := 6, locals := 103 }
set_option maxRecDepth 100000 in
set_option maxHeartbeats 4000000 in
theorem c_X5_needTwoMentionsx (l : Launch) (htr : l.stackTraces = false) (D : va_G) (cA : ClassId) (ad : Nat → Nat) (g : Nat → Nat → Int32) (z : Nat → Nat) (x : Int32) (y : Int32) (h1 : ¬ q_r x (z 0)) (hc : (z 0) ≤ 16) : q_CX l yX5_needTwoMentions [Cond.code yX5_needTwoMentions cX5_needTwoMentions 3 none] rm_X5_needTwoMentionsx D cA [.ref (ad 70), .int x, .int y] (rlW cA ad g z) "java/lang/IndexOutOfBoundsException" (rlW cA ad g z) := by
  refine q_startX RX5 (by decide +kernel) rfl (Nat.le_of_ble_eq_true rfl) ?_
  intro p e s m below meth c A args H locs ls hx hb hr hml hown hT hlk hP hK hD hA hS hl hout hX hZ
  have hl : lv_has ls 3 [(0, .ref (ad 70)), (1, .int x), (2, .int y)] := hl
  refine lv_aload_n hx hb dX5_needTwoMentions_0 rfl (lv_at hl 0 rfl) ?_
  refine lv_iload_n hx hb dX5_needTwoMentions_1 rfl (lv_at hl 1 rfl) ?_
  exact q_callXW (As := [.int x]) hx hb hml hown hT hK hP hD hS hA hout hlk hX hZ (c_X5_needMentionx l htr D cA ad g z x h1 (show (z 0) ≤ 16 by omega)) k_X5_needMention kl_X5_131 (q0 := 0) rfl rfl rfl hl rfl rfl (Nat.le_of_ble_eq_true rfl) ⟨⟨rfl, rfl⟩, Nat.le_of_ble_eq_true rfl, Nat.le_of_ble_eq_true rfl⟩ ⟨Nat.le_of_ble_eq_true rfl, Nat.le_of_ble_eq_true rfl⟩ dX5_needTwoMentions_2
abbrev rm_X5_needTwoMentionsx2 : Room := { frames := 7, cells := 1, slots := 6, locals := 103 }
set_option maxRecDepth 100000 in
set_option maxHeartbeats 4000000 in
theorem c_X5_needTwoMentionsx2 (l : Launch) (htr : l.stackTraces = false) (D : va_G) (cA : ClassId) (ad : Nat → Nat) (g : Nat → Nat → Int32) (z : Nat → Nat) (x : Int32) (y : Int32) (h1 : q_r x (z 0)) (h2 : ¬ q_r y (z 0)) (hc : (z 0) ≤ 16) : q_CX l yX5_needTwoMentions [Cond.code yX5_needTwoMentions cX5_needTwoMentions 3 none] rm_X5_needTwoMentionsx2 D cA [.ref (ad 70), .int x, .int y] (rlW cA ad g z) "java/lang/IndexOutOfBoundsException" (rlW cA ad g z) := by
  refine q_startX RX5 (by decide +kernel) rfl (Nat.le_of_ble_eq_true rfl) ?_
  intro p e s m below meth c A args H locs ls hx hb hr hml hown hT hlk hP hK hD hA hS hl hout hX hZ
  have hl : lv_has ls 3 [(0, .ref (ad 70)), (1, .int x), (2, .int y)] := hl
  refine lv_aload_n hx hb dX5_needTwoMentions_0 rfl (lv_at hl 0 rfl) ?_
  refine lv_iload_n hx hb dX5_needTwoMentions_1 rfl (lv_at hl 1 rfl) ?_
  refine q_callVW (As := [.int x]) (w1 := rlW cA ad g z) hx hb hml hown hT hK hP hD hS hA (c_X5_needMention l D cA ad g z x h1 (show (z 0) ≤ 16 by omega)) k_X5_needMention kl_X5_131 (q0 := 0) rfl rfl rfl ((rlW_adr _ _ _ _).trans (rlW_adr _ _ _ _).symm) hl rfl rfl (Nat.le_of_ble_eq_true rfl) ⟨⟨rfl, rfl⟩, Nat.le_of_ble_eq_true rfl, Nat.le_of_ble_eq_true rfl⟩ ⟨Nat.zero_le _, Nat.zero_le _⟩ dX5_needTwoMentions_2 (fun H locs hP hD hS => ?_)
  refine lv_aload_n hx hb dX5_needTwoMentions_5 rfl (lv_at hl 0 rfl) ?_
  refine lv_iload_n hx hb dX5_needTwoMentions_6 rfl (lv_at hl 2 rfl) ?_
  exact q_callXW (As := [.int y]) hx hb hml hown hT hK hP hD hS hA hout hlk hX hZ (c_X5_needMentionx l htr D cA ad g z y h2 (show (z 0) ≤ 16 by omega)) k_X5_needMention kl_X5_131 (q0 := 0) rfl rfl rfl hl rfl rfl (Nat.le_of_ble_eq_true rfl) ⟨⟨rfl, rfl⟩, Nat.le_of_ble_eq_true rfl, Nat.le_of_ble_eq_true rfl⟩ ⟨Nat.le_of_ble_eq_true rfl, Nat.le_of_ble_eq_true rfl⟩ dX5_needTwoMentions_7
abbrev rm_X5_needTwoMentionsx3 : Room := { frames := 7, cells := 1, slots := 6, locals := 103 }
set_option maxRecDepth 100000 in
set_option maxHeartbeats 4000000 in
theorem c_X5_needTwoMentionsx3 (l : Launch) (htr : l.stackTraces = false) (D : va_G) (cA : ClassId) (ad : Nat → Nat) (g : Nat → Nat → Int32) (z : Nat → Nat) (x : Int32) (y : Int32) (h1 : q_r x (z 0)) (h2 : q_r y (z 0)) (hne : x = y) (hc : (z 0) ≤ 16) : q_CX l yX5_needTwoMentions [Cond.code yX5_needTwoMentions cX5_needTwoMentions 3 none] rm_X5_needTwoMentionsx3 D cA [.ref (ad 70), .int x, .int y] (rlW cA ad g z) "java/lang/IllegalArgumentException" (rlW cA ad g z) := by
  refine q_startX RX5 (by decide +kernel) rfl (Nat.le_of_ble_eq_true rfl) ?_
  intro p e s m below meth c A args H locs ls hx hb hr hml hown hT hlk hP hK hD hA hS hl hout hX hZ
  have hl : lv_has ls 3 [(0, .ref (ad 70)), (1, .int x), (2, .int y)] := hl
  refine lv_aload_n hx hb dX5_needTwoMentions_0 rfl (lv_at hl 0 rfl) ?_
  refine lv_iload_n hx hb dX5_needTwoMentions_1 rfl (lv_at hl 1 rfl) ?_
  refine q_callVW (As := [.int x]) (w1 := rlW cA ad g z) hx hb hml hown hT hK hP hD hS hA (c_X5_needMention l D cA ad g z x h1 (show (z 0) ≤ 16 by omega)) k_X5_needMention kl_X5_131 (q0 := 0) rfl rfl rfl ((rlW_adr _ _ _ _).trans (rlW_adr _ _ _ _).symm) hl rfl rfl (Nat.le_of_ble_eq_true rfl) ⟨⟨rfl, rfl⟩, Nat.le_of_ble_eq_true rfl, Nat.le_of_ble_eq_true rfl⟩ ⟨Nat.zero_le _, Nat.zero_le _⟩ dX5_needTwoMentions_2 (fun H locs hP hD hS => ?_)
  refine lv_aload_n hx hb dX5_needTwoMentions_5 rfl (lv_at hl 0 rfl) ?_
  refine lv_iload_n hx hb dX5_needTwoMentions_6 rfl (lv_at hl 2 rfl) ?_
  refine q_callVW (As := [.int y]) (w1 := rlW cA ad g z) hx hb hml hown hT hK hP hD hS hA (c_X5_needMention l D cA ad g z y h2 (show (z 0) ≤ 16 by omega)) k_X5_needMention kl_X5_131 (q0 := 0) rfl rfl rfl ((rlW_adr _ _ _ _).trans (rlW_adr _ _ _ _).symm) hl rfl rfl (Nat.le_of_ble_eq_true rfl) ⟨⟨rfl, rfl⟩, Nat.le_of_ble_eq_true rfl, Nat.le_of_ble_eq_true rfl⟩ ⟨Nat.zero_le _, Nat.zero_le _⟩ dX5_needTwoMentions_7 (fun H locs hP hD hS => ?_)
  refine lv_iload_n hx hb dX5_needTwoMentions_10 rfl (lv_at hl 1 rfl) ?_
  refine lv_iload_n hx hb dX5_needTwoMentions_11 rfl (lv_at hl 2 rfl) ?_
  exact q_callXS (As := [.int x, .int y]) hx hb hml hown hT hK hP hD hS hA hout hlk hX hZ (c_X5_needUnlikex l htr D cA x y hne) k_X5_needUnlike kl_X5_108 hl rfl rfl (Nat.le_of_ble_eq_true rfl) ⟨⟨rfl, rfl⟩, Nat.le_of_ble_eq_true rfl, Nat.le_of_ble_eq_true rfl⟩ ⟨Nat.le_of_ble_eq_true rfl, Nat.le_of_ble_eq_true rfl⟩ dX5_needTwoMentions_12
abbrev rm_X5_needPerson : Room := { frames := 1, cells := 0, slots := 0, locals := 20 }
set_option maxRecDepth 100000 in
set_option maxHeartbeats 4000000 in
theorem c_X5_needPerson (l : Launch) (D : va_G) (cA : ClassId) (ad : Nat → Nat) (g : Nat → Nat → Int32) (z : Nat → Nat) (w : Int32) (hw : q_r w (z 2)) (hm9 : (z 2) ≤ 40) : q_CV l yX5_needPerson [Cond.code yX5_needPerson cX5_needPerson 2 none] rm_X5_needPerson D cA [.ref (ad 70), .int w] (rlW cA ad g z) (rlW cA ad g z) := by
  refine q_startV RX5 (by decide +kernel) rfl (Nat.le_of_ble_eq_true rfl) ?_
  intro p e s m below meth c A args H locs ls hx hb hr hml hown hT hlk hP hK hD hA hS hl
  have hl : lv_has ls 2 [(0, .ref (ad 70)), (1, .int w)] := hl
  refine lv_iload_n hx hb dX5_needPerson_0 rfl (lv_at hl 1 rfl) ?_
  refine lv_if_lt (tgt := 15) hx hb dX5_needPerson_1 (by decide) (fun c_1 => ?_) (fun c_1 => ?_)
  · exact absurd c_1 (q_r_ge hw (by omega))
  · refine lv_iload_n hx hb dX5_needPerson_4 rfl (lv_at hl 1 rfl) ?_
    refine lv_aload_n hx hb dX5_needPerson_5 rfl (lv_at hl 0 rfl) ?_
    refine q_get hx hb hT hown hK hP kw_X5 0 rfl rfl 11 (by decide) kf_X5_59 rfl (v := .ref (ad 72)) rfl dX5_needPerson_6 ?_
    refine q_callIS (As := []) (r := nI (z 2)) (wc := psW cA ad g z) (w1 := psW cA ad g z) (ws1 := rlW cA ad g z) hx hb hml hown hT hK hP hD hS hA (c_X2_made l D cA ad g z) k_X2_made kl_X5_214 (q0 := 0) rfl rfl rfl (rl_a cA ad g z ++ yrW cA ad g z) (gpW cA ad g z) (List.append_assoc _ _ _).symm (rl_p rfl rfl rfl) ((psW_adr _ _ _ _).trans (psW_adr _ _ _ _).symm) hl rfl rfl (Nat.le_of_ble_eq_true rfl) ⟨⟨rfl, rfl⟩, Nat.le_of_ble_eq_true rfl, Nat.le_of_ble_eq_true rfl⟩ ⟨Nat.zero_le _, Nat.zero_le _⟩ dX5_needPerson_9 (fun H locs hP hD hS => ?_)
    refine lv_icmp_lt (tgt := 25) hx hb dX5_needPerson_12 (by decide) (fun c_12 => ?_) (fun c_12 => ?_)
    · exact q_vret hx hb hr hlk hP hS dX5_needPerson_25
    · exact absurd (q_r_lt hw (by omega)) c_12
abbrev rm_X5_needPersonx : Room := { frames := 6, cells := 1, slots := 6, locals := 82 }
set_option maxRecDepth 100000 in
set_option maxHeartbeats 4000000 in
theorem c_X5_needPersonx (l : Launch) (htr : l.stackTraces = false) (D : va_G) (cA : ClassId) (ad : Nat → Nat) (g : Nat → Nat → Int32) (z : Nat → Nat) (w : Int32) (hw : ¬ q_r w (z 2)) (hm9 : (z 2) ≤ 40) : q_CX l yX5_needPerson [Cond.code yX5_needPerson cX5_needPerson 2 none] rm_X5_needPersonx D cA [.ref (ad 70), .int w] (rlW cA ad g z) "java/lang/IndexOutOfBoundsException" (rlW cA ad g z) := by
  refine q_startX RX5 (by decide +kernel) rfl (Nat.le_of_ble_eq_true rfl) ?_
  intro p e s m below meth c A args H locs ls hx hb hr hml hown hT hlk hP hK hD hA hS hl hout hX hZ
  have hl : lv_has ls 2 [(0, .ref (ad 70)), (1, .int w)] := hl
  refine lv_iload_n hx hb dX5_needPerson_0 rfl (lv_at hl 1 rfl) ?_
  refine lv_if_lt (tgt := 15) hx hb dX5_needPerson_1 (by decide) (fun c_1 => ?_) (fun c_1 => ?_)
  · exact q_throw (text := "there is no such person") hx hb htr hml hown hT hX hZ hP hS hl hout hlk kx_X5_181 ki_java_lang_IndexOutOfBoundsException (by decide +kernel) q_ok_iob (by decide +kernel) dX5_needPerson_15 dX5_needPerson_18 dX5_needPerson_19 dX5_needPerson_21 dX5_needPerson_24 ⟨Nat.le_of_ble_eq_true rfl, Nat.le_of_ble_eq_true rfl, Nat.le_of_ble_eq_true rfl, Nat.le_of_ble_eq_true rfl⟩
  · refine lv_iload_n hx hb dX5_needPerson_4 rfl (lv_at hl 1 rfl) ?_
    refine lv_aload_n hx hb dX5_needPerson_5 rfl (lv_at hl 0 rfl) ?_
    refine q_get hx hb hT hown hK hP kw_X5 0 rfl rfl 11 (by decide) kf_X5_59 rfl (v := .ref (ad 72)) rfl dX5_needPerson_6 ?_
    refine q_callIS (As := []) (r := nI (z 2)) (wc := psW cA ad g z) (w1 := psW cA ad g z) (ws1 := rlW cA ad g z) hx hb hml hown hT hK hP hD hS hA (c_X2_made l D cA ad g z) k_X2_made kl_X5_214 (q0 := 0) rfl rfl rfl (rl_a cA ad g z ++ yrW cA ad g z) (gpW cA ad g z) (List.append_assoc _ _ _).symm (rl_p rfl rfl rfl) ((psW_adr _ _ _ _).trans (psW_adr _ _ _ _).symm) hl rfl rfl (Nat.le_of_ble_eq_true rfl) ⟨⟨rfl, rfl⟩, Nat.le_of_ble_eq_true rfl, Nat.le_of_ble_eq_true rfl⟩ ⟨Nat.zero_le _, Nat.zero_le _⟩ dX5_needPerson_9 (fun H locs hP hD hS => ?_)
    refine lv_icmp_lt (tgt := 25) hx hb dX5_needPerson_12 (by decide) (fun c_12 => ?_) (fun c_12 => ?_)
    · exact absurd (q_r.of c_1 c_12 (by omega)) hw
    · exact q_throw (text := "there is no such person") hx hb htr hml hown hT hX hZ hP hS hl hout hlk kx_X5_181 ki_java_lang_IndexOutOfBoundsException (by decide +kernel) q_ok_iob (by decide +kernel) dX5_needPerson_15 dX5_needPerson_18 dX5_needPerson_19 dX5_needPerson_21 dX5_needPerson_24 ⟨Nat.le_of_ble_eq_true rfl, Nat.le_of_ble_eq_true rfl, Nat.le_of_ble_eq_true rfl, Nat.le_of_ble_eq_true rfl⟩
abbrev rm_X5_needRoomForPerson : Room := { frames := 1, cells := 0, slots := 0, locals := 20 }
set_option maxRecDepth 100000 in
set_option maxHeartbeats 4000000 in
theorem c_X5_needRoomForPerson (l : Launch) (D : va_G) (cA : ClassId) (ad : Nat → Nat) (g : Nat → Nat → Int32) (z : Nat → Nat)  (hr9 : (z 2) < 40) : q_CV l yX5_needRoomForPerson [Cond.code yX5_needRoomForPerson cX5_needRoomForPerson 1 none] rm_X5_needRoomForPerson D cA [.ref (ad 70)] (rlW cA ad g z) (rlW cA ad g z) := by
  refine q_startV RX5 (by decide +kernel) rfl (Nat.le_of_ble_eq_true rfl) ?_
  intro p e s m below meth c A args H locs ls hx hb hr hml hown hT hlk hP hK hD hA hS hl
  have hl : lv_has ls 1 [(0, .ref (ad 70))] := hl
  refine lv_aload_n hx hb dX5_needRoomForPerson_0 rfl (lv_at hl 0 rfl) ?_
  refine q_get hx hb hT hown hK hP kw_X5 0 rfl rfl 11 (by decide) kf_X5_59 rfl (v := .ref (ad 72)) rfl dX5_needRoomForPerson_1 ?_
  refine q_callIS (As := []) (r := nI (z 2)) (wc := psW cA ad g z) (w1 := psW cA ad g z) (ws1 := rlW cA ad g z) hx hb hml hown hT hK hP hD hS hA (c_X2_made l D cA ad g z) k_X2_made kl_X5_214 (q0 := 0) rfl rfl rfl (rl_a cA ad g z ++ yrW cA ad g z) (gpW cA ad g z) (List.append_assoc _ _ _).symm (rl_p rfl rfl rfl) ((psW_adr _ _ _ _).trans (psW_adr _ _ _ _).symm) hl rfl rfl (Nat.le_of_ble_eq_true rfl) ⟨⟨rfl, rfl⟩, Nat.le_of_ble_eq_true rfl, Nat.le_of_ble_eq_true rfl⟩ ⟨Nat.zero_le _, Nat.zero_le _⟩ dX5_needRoomForPerson_4 (fun H locs hP hD hS => ?_)
  refine lv_bipush (v := nI 40) hx hb dX5_needRoomForPerson_7 (by decide +kernel) ?_
  refine lv_icmp_lt (tgt := 22) hx hb dX5_needRoomForPerson_9 (by decide) (fun c_9 => ?_) (fun c_9 => ?_)
  · have c_9 := nI_lt1 (a := (z 2)) (b := 40) (by omega) (by omega) c_9
    exact q_vret hx hb hr hlk hP hS dX5_needRoomForPerson_22
  · have c_9 := nI_lt0 (a := (z 2)) (b := 40) (by omega) (by omega) c_9
    exfalso; omega
abbrev rm_X5_needRoomForPersonx : Room := { frames := 6, cells := 1, slots := 6, locals := 82 }
set_option maxRecDepth 100000 in
set_option maxHeartbeats 4000000 in
theorem c_X5_needRoomForPersonx (l : Launch) (htr : l.stackTraces = false) (D : va_G) (cA : ClassId) (ad : Nat → Nat) (g : Nat → Nat → Int32) (z : Nat → Nat)  (hr9 : 40 ≤ (z 2)) (hm9 : (z 2) ≤ 40) : q_CX l yX5_needRoomForPerson [Cond.code yX5_needRoomForPerson cX5_needRoomForPerson 1 none] rm_X5_needRoomForPersonx D cA [.ref (ad 70)] (rlW cA ad g z) "java/lang/IllegalStateException" (rlW cA ad g z) := by
  refine q_startX RX5 (by decide +kernel) rfl (Nat.le_of_ble_eq_true rfl) ?_
  intro p e s m below meth c A args H locs ls hx hb hr hml hown hT hlk hP hK hD hA hS hl hout hX hZ
  have hl : lv_has ls 1 [(0, .ref (ad 70))] := hl
  refine lv_aload_n hx hb dX5_needRoomForPerson_0 rfl (lv_at hl 0 rfl) ?_
  refine q_get hx hb hT hown hK hP kw_X5 0 rfl rfl 11 (by decide) kf_X5_59 rfl (v := .ref (ad 72)) rfl dX5_needRoomForPerson_1 ?_
  refine q_callIS (As := []) (r := nI (z 2)) (wc := psW cA ad g z) (w1 := psW cA ad g z) (ws1 := rlW cA ad g z) hx hb hml hown hT hK hP hD hS hA (c_X2_made l D cA ad g z) k_X2_made kl_X5_214 (q0 := 0) rfl rfl rfl (rl_a cA ad g z ++ yrW cA ad g z) (gpW cA ad g z) (List.append_assoc _ _ _).symm (rl_p rfl rfl rfl) ((psW_adr _ _ _ _).trans (psW_adr _ _ _ _).symm) hl rfl rfl (Nat.le_of_ble_eq_true rfl) ⟨⟨rfl, rfl⟩, Nat.le_of_ble_eq_true rfl, Nat.le_of_ble_eq_true rfl⟩ ⟨Nat.zero_le _, Nat.zero_le _⟩ dX5_needRoomForPerson_4 (fun H locs hP hD hS => ?_)
  refine lv_bipush (v := nI 40) hx hb dX5_needRoomForPerson_7 (by decide +kernel) ?_
  refine lv_icmp_lt (tgt := 22) hx hb dX5_needRoomForPerson_9 (by decide) (fun c_9 => ?_) (fun c_9 => ?_)
  · have c_9 := nI_lt1 (a := (z 2)) (b := 40) (by omega) (by omega) c_9
    exfalso; omega
  · have c_9 := nI_lt0 (a := (z 2)) (b := 40) (by omega) (by omega) c_9
    exact q_throw (text := "there are 40 persons") hx hb htr hml hown hT hX hZ hP hS hl hout hlk kx_X5_91 ki_java_lang_IllegalStateException (by decide +kernel) q_ok_ise (by decide +kernel) dX5_needRoomForPerson_12 dX5_needRoomForPerson_15 dX5_needRoomForPerson_16 dX5_needRoomForPerson_18 dX5_needRoomForPerson_21 ⟨Nat.le_of_ble_eq_true rfl, Nat.le_of_ble_eq_true rfl, Nat.le_of_ble_eq_true rfl, Nat.le_of_ble_eq_true rfl⟩
