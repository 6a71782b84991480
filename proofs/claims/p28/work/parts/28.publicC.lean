abbrev rm_X5_splitx : Room := { frames := 7, cells := 1, slots := 6, locals := 103 }
set_option maxRecDepth 100000 in
set_option maxHeartbeats 4000000 in
theorem c_X5_splitx (l : Launch) (htr : l.stackTraces = false) (D : va_G) (cA : ClassId) (ad : Nat → Nat) (g : Nat → Nat → Int32) (z : Nat → Nat) (w : Int32) (hw : ¬ q_r w (z 0)) (hc : (z 0) ≤ 16) : q_CX l yX5_split [Cond.code yX5_split cX5_split 2 (some .int)] rm_X5_splitx D cA [.ref (ad 70), .int w] (rlW cA ad g z) "java/lang/IndexOutOfBoundsException" (rlW cA ad g z) := by
  refine q_startX RX5 (by decide +kernel) rfl (Nat.le_of_ble_eq_true rfl) ?_
  intro p e s m below meth c A args H locs ls hx hb hr hml hown hT hlk hP hK hD hA hS hl hout hX hZ
  have hl : lv_has ls 2 [(0, .ref (ad 70)), (1, .int w)] := hl
  refine lv_aload_n hx hb dX5_split_0 rfl (lv_at hl 0 rfl) ?_
  refine lv_iload_n hx hb dX5_split_1 rfl (lv_at hl 1 rfl) ?_
  exact q_callXW (As := [.int w]) hx hb hml hown hT hK hP hD hS hA hout hlk hX hZ (c_X5_needMentionx l htr D cA ad g z w hw (show (z 0) ≤ 16 by omega)) k_X5_needMention kl_X5_131 (q0 := 0) rfl rfl rfl hl rfl rfl (Nat.le_of_ble_eq_true rfl) ⟨⟨rfl, rfl⟩, Nat.le_of_ble_eq_true rfl, Nat.le_of_ble_eq_true rfl⟩ ⟨Nat.le_of_ble_eq_true rfl, Nat.le_of_ble_eq_true rfl⟩ dX5_split_2
abbrev rm_X5_splitx2 : Room := { frames := 6, cells := 1, slots := 6, locals := 82 }
set_option maxRecDepth 100000 in
set_option maxHeartbeats 4000000 in
theorem c_X5_splitx2 (l : Launch) (htr : l.stackTraces = false) (D : va_G) (cA : ClassId) (ad : Nat → Nat) (g : Nat → Nat → Int32) (z : Nat → Nat) (k : Nat) (hk : k < (z 0)) (hc : (z 0) ≤ 16) (hcn : cntN (g 22) (g 22 k) (z 0) < 2) : q_CX l yX5_split [Cond.code yX5_split cX5_split 2 (some .int)] rm_X5_splitx2 D cA [.ref (ad 70), .int (nI k)] (rlW cA ad g z) "java/lang/IllegalStateException" (rlW cA ad g z) := by
  refine q_startX RX5 (by decide +kernel) rfl (Nat.le_of_ble_eq_true rfl) ?_
  intro p e s m below meth c A args H locs ls hx hb hr hml hown hT hlk hP hK hD hA hS hl hout hX hZ
  have hl : lv_has ls 2 [(0, .ref (ad 70)), (1, .int (nI k))] := hl
  have hcl := cntN_le (g 22) (g 22 k) (z 0)
  refine lv_aload_n hx hb dX5_split_0 rfl (lv_at hl 0 rfl) ?_
  refine lv_iload_n hx hb dX5_split_1 rfl (lv_at hl 1 rfl) ?_
  refine q_callVW (As := [.int (nI k)]) (w1 := rlW cA ad g z) hx hb hml hown hT hK hP hD hS hA (c_X5_needMention l D cA ad g z (nI k) (q_r_nI (by omega)) (show (z 0) ≤ 16 by omega)) k_X5_needMention kl_X5_131 (q0 := 0) rfl rfl rfl ((rlW_adr _ _ _ _).trans (rlW_adr _ _ _ _).symm) hl rfl rfl (Nat.le_of_ble_eq_true rfl) ⟨⟨rfl, rfl⟩, Nat.le_of_ble_eq_true rfl, Nat.le_of_ble_eq_true rfl⟩ ⟨Nat.zero_le _, Nat.zero_le _⟩ dX5_split_2 (fun H locs hP hD hS => ?_)
  refine lv_aload_n hx hb dX5_split_5 rfl (lv_at hl 0 rfl) ?_
  refine lv_aload_n hx hb dX5_split_6 rfl (lv_at hl 0 rfl) ?_
  refine q_get hx hb hT hown hK hP kw_X5 0 rfl rfl 11 (by decide) kf_X5_59 rfl (v := .ref (ad 72)) rfl dX5_split_7 ?_
  refine lv_iload_n hx hb dX5_split_10 rfl (lv_at hl 1 rfl) ?_
  refine q_callIS (As := [.int (nI k)]) (r := (g 22) k) (wc := psW cA ad g z) (w1 := psW cA ad g z) (ws1 := rlW cA ad g z) hx hb hml hown hT hK hP hD hS hA (c_X2_ownerOf l D cA ad g z k (show k < 16 by omega)) k_X2_ownerOf kl_X5_164 (q0 := 0) rfl rfl rfl (rl_a cA ad g z ++ yrW cA ad g z) (gpW cA ad g z) (List.append_assoc _ _ _).symm (rl_p rfl rfl rfl) ((psW_adr _ _ _ _).trans (psW_adr _ _ _ _).symm) hl rfl rfl (Nat.le_of_ble_eq_true rfl) ⟨⟨rfl, rfl⟩, Nat.le_of_ble_eq_true rfl, Nat.le_of_ble_eq_true rfl⟩ ⟨Nat.zero_le _, Nat.zero_le _⟩ dX5_split_11 (fun H locs hP hD hS => ?_)
  refine q_callIW (As := [.int ((g 22) k)]) (r := nI (cntN (g 22) ((g 22) k) (z 0))) (w1 := rlW cA ad g z) hx hb hml hown hT hK hP hD hS hA (c_X5_mentionsOf l D cA ad g z ((g 22) k) (show (z 0) ≤ 16 by omega)) k_X5_mentionsOf kl_X5_170 (q0 := 0) rfl rfl rfl ((rlW_adr _ _ _ _).trans (rlW_adr _ _ _ _).symm) hl rfl rfl (Nat.le_of_ble_eq_true rfl) ⟨⟨rfl, rfl⟩, Nat.le_of_ble_eq_true rfl, Nat.le_of_ble_eq_true rfl⟩ ⟨Nat.zero_le _, Nat.zero_le _⟩ dX5_split_14 (fun H locs hP hD hS => ?_)
  refine lv_iconst (v := nI 2) hx hb dX5_split_17 (by decide +kernel) ?_
  refine lv_icmp_ge (tgt := 31) hx hb dX5_split_18 (by decide) (fun c_18 => ?_) (fun c_18 => ?_)
  · have c_18 := nI_le1 (a := 2) (b := cntN (g 22) ((g 22) k) (z 0)) (by omega) (by omega) c_18
    exfalso; omega
  · have c_18 := nI_le0 (a := 2) (b := cntN (g 22) ((g 22) k) (z 0)) (by omega) (by omega) c_18
    exact q_throw (text := "no other mention belongs to its person") hx hb htr hml hown hT hX hZ hP hS hl hout hlk kx_X5_91 ki_java_lang_IllegalStateException (by decide +kernel) q_ok_ise (by decide +kernel) dX5_split_21 dX5_split_24 dX5_split_25 dX5_split_27 dX5_split_30 ⟨Nat.le_of_ble_eq_true rfl, Nat.le_of_ble_eq_true rfl, Nat.le_of_ble_eq_true rfl, Nat.le_of_ble_eq_true rfl⟩
abbrev rm_X5_splitx3 : Room := { frames := 7, cells := 1, slots := 6, locals := 102 }
set_option maxRecDepth 100000 in
set_option maxHeartbeats 4000000 in
theorem c_X5_splitx3 (l : Launch) (htr : l.stackTraces = false) (D : va_G) (cA : ClassId) (ad : Nat → Nat) (g : Nat → Nat → Int32) (z : Nat → Nat) (k : Nat) (hk : k < (z 0)) (hc : (z 0) ≤ 16) (hcn : 2 ≤ cntN (g 22) (g 22 k) (z 0)) (hr9 : 40 ≤ (z 2)) (hm9 : (z 2) ≤ 40) : q_CX l yX5_split [Cond.code yX5_split cX5_split 2 (some .int)] rm_X5_splitx3 D cA [.ref (ad 70), .int (nI k)] (rlW cA ad g z) "java/lang/IllegalStateException" (rlW cA ad g z) := by
  refine q_startX RX5 (by decide +kernel) rfl (Nat.le_of_ble_eq_true rfl) ?_
  intro p e s m below meth c A args H locs ls hx hb hr hml hown hT hlk hP hK hD hA hS hl hout hX hZ
  have hl : lv_has ls 2 [(0, .ref (ad 70)), (1, .int (nI k))] := hl
  have hcl := cntN_le (g 22) (g 22 k) (z 0)
  refine lv_aload_n hx hb dX5_split_0 rfl (lv_at hl 0 rfl) ?_
  refine lv_iload_n hx hb dX5_split_1 rfl (lv_at hl 1 rfl) ?_
  refine q_callVW (As := [.int (nI k)]) (w1 := rlW cA ad g z) hx hb hml hown hT hK hP hD hS hA (c_X5_needMention l D cA ad g z (nI k) (q_r_nI (by omega)) (show (z 0) ≤ 16 by omega)) k_X5_needMention kl_X5_131 (q0 := 0) rfl rfl rfl ((rlW_adr _ _ _ _).trans (rlW_adr _ _ _ _).symm) hl rfl rfl (Nat.le_of_ble_eq_true rfl) ⟨⟨rfl, rfl⟩, Nat.le_of_ble_eq_true rfl, Nat.le_of_ble_eq_true rfl⟩ ⟨Nat.zero_le _, Nat.zero_le _⟩ dX5_split_2 (fun H locs hP hD hS => ?_)
  refine lv_aload_n hx hb dX5_split_5 rfl (lv_at hl 0 rfl) ?_
  refine lv_aload_n hx hb dX5_split_6 rfl (lv_at hl 0 rfl) ?_
  refine q_get hx hb hT hown hK hP kw_X5 0 rfl rfl 11 (by decide) kf_X5_59 rfl (v := .ref (ad 72)) rfl dX5_split_7 ?_
  refine lv_iload_n hx hb dX5_split_10 rfl (lv_at hl 1 rfl) ?_
  refine q_callIS (As := [.int (nI k)]) (r := (g 22) k) (wc := psW cA ad g z) (w1 := psW cA ad g z) (ws1 := rlW cA ad g z) hx hb hml hown hT hK hP hD hS hA (c_X2_ownerOf l D cA ad g z k (show k < 16 by omega)) k_X2_ownerOf kl_X5_164 (q0 := 0) rfl rfl rfl (rl_a cA ad g z ++ yrW cA ad g z) (gpW cA ad g z) (List.append_assoc _ _ _).symm (rl_p rfl rfl rfl) ((psW_adr _ _ _ _).trans (psW_adr _ _ _ _).symm) hl rfl rfl (Nat.le_of_ble_eq_true rfl) ⟨⟨rfl, rfl⟩, Nat.le_of_ble_eq_true rfl, Nat.le_of_ble_eq_true rfl⟩ ⟨Nat.zero_le _, Nat.zero_le _⟩ dX5_split_11 (fun H locs hP hD hS => ?_)
  refine q_callIW (As := [.int ((g 22) k)]) (r := nI (cntN (g 22) ((g 22) k) (z 0))) (w1 := rlW cA ad g z) hx hb hml hown hT hK hP hD hS hA (c_X5_mentionsOf l D cA ad g z ((g 22) k) (show (z 0) ≤ 16 by omega)) k_X5_mentionsOf kl_X5_170 (q0 := 0) rfl rfl rfl ((rlW_adr _ _ _ _).trans (rlW_adr _ _ _ _).symm) hl rfl rfl (Nat.le_of_ble_eq_true rfl) ⟨⟨rfl, rfl⟩, Nat.le_of_ble_eq_true rfl, Nat.le_of_ble_eq_true rfl⟩ ⟨Nat.zero_le _, Nat.zero_le _⟩ dX5_split_14 (fun H locs hP hD hS => ?_)
  refine lv_iconst (v := nI 2) hx hb dX5_split_17 (by decide +kernel) ?_
  refine lv_icmp_ge (tgt := 31) hx hb dX5_split_18 (by decide) (fun c_18 => ?_) (fun c_18 => ?_)
  · have c_18 := nI_le1 (a := 2) (b := cntN (g 22) ((g 22) k) (z 0)) (by omega) (by omega) c_18
    refine lv_aload_n hx hb dX5_split_31 rfl (lv_at hl 0 rfl) ?_
    exact q_callXW (As := []) hx hb hml hown hT hK hP hD hS hA hout hlk hX hZ (c_X5_needRoomForPersonx l htr D cA ad g z (show 40 ≤ (z 2) by omega) (show (z 2) ≤ 40 by omega)) k_X5_needRoomForPerson kl_X5_98 (q0 := 0) rfl rfl rfl hl rfl rfl (Nat.le_of_ble_eq_true rfl) ⟨⟨rfl, rfl⟩, Nat.le_of_ble_eq_true rfl, Nat.le_of_ble_eq_true rfl⟩ ⟨Nat.le_of_ble_eq_true rfl, Nat.le_of_ble_eq_true rfl⟩ dX5_split_32
  · have c_18 := nI_le0 (a := 2) (b := cntN (g 22) ((g 22) k) (z 0)) (by omega) (by omega) c_18
    exfalso; omega
abbrev rm_X5_person : Room := { frames := 2, cells := 0, slots := 0, locals := 42 }
set_option maxRecDepth 100000 in
set_option maxHeartbeats 4000000 in
theorem c_X5_person (l : Launch) (D : va_G) (cA : ClassId) (ad : Nat → Nat) (g : Nat → Nat → Int32) (z : Nat → Nat) (k : Nat) (hk : k < (z 0)) (hc : (z 0) ≤ 16) : q_CI l yX5_person [Cond.code yX5_person cX5_person 2 (some .int)] rm_X5_person D cA [.ref (ad 70), .int (nI k)] (rlW cA ad g z) ((g 22) k) (rlW cA ad g z) := by
  refine q_startI RX5 (by decide +kernel) rfl (Nat.le_of_ble_eq_true rfl) ?_
  intro p e s m below meth c A args H locs ls hx hb hr hml hown hT hlk hP hK hD hA hS hl
  have hl : lv_has ls 2 [(0, .ref (ad 70)), (1, .int (nI k))] := hl
  refine lv_aload_n hx hb dX5_person_0 rfl (lv_at hl 0 rfl) ?_
  refine lv_iload_n hx hb dX5_person_1 rfl (lv_at hl 1 rfl) ?_
  refine q_callVW (As := [.int (nI k)]) (w1 := rlW cA ad g z) hx hb hml hown hT hK hP hD hS hA (c_X5_needMention l D cA ad g z (nI k) (q_r_nI (by omega)) (show (z 0) ≤ 16 by omega)) k_X5_needMention kl_X5_131 (q0 := 0) rfl rfl rfl ((rlW_adr _ _ _ _).trans (rlW_adr _ _ _ _).symm) hl rfl rfl (Nat.le_of_ble_eq_true rfl) ⟨⟨rfl, rfl⟩, Nat.le_of_ble_eq_true rfl, Nat.le_of_ble_eq_true rfl⟩ ⟨Nat.zero_le _, Nat.zero_le _⟩ dX5_person_2 (fun H locs hP hD hS => ?_)
  refine lv_aload_n hx hb dX5_person_5 rfl (lv_at hl 0 rfl) ?_
  refine q_get hx hb hT hown hK hP kw_X5 0 rfl rfl 11 (by decide) kf_X5_59 rfl (v := .ref (ad 72)) rfl dX5_person_6 ?_
  refine lv_iload_n hx hb dX5_person_9 rfl (lv_at hl 1 rfl) ?_
  refine q_callIS (As := [.int (nI k)]) (r := (g 22) k) (wc := psW cA ad g z) (w1 := psW cA ad g z) (ws1 := rlW cA ad g z) hx hb hml hown hT hK hP hD hS hA (c_X2_ownerOf l D cA ad g z k (show k < 16 by omega)) k_X2_ownerOf kl_X5_164 (q0 := 0) rfl rfl rfl (rl_a cA ad g z ++ yrW cA ad g z) (gpW cA ad g z) (List.append_assoc _ _ _).symm (rl_p rfl rfl rfl) ((psW_adr _ _ _ _).trans (psW_adr _ _ _ _).symm) hl rfl rfl (Nat.le_of_ble_eq_true rfl) ⟨⟨rfl, rfl⟩, Nat.le_of_ble_eq_true rfl, Nat.le_of_ble_eq_true rfl⟩ ⟨Nat.zero_le _, Nat.zero_le _⟩ dX5_person_10 (fun H locs hP hD hS => ?_)
  exact q_iret hx hb hr hlk (by rfl) hP hS dX5_person_13
abbrev rm_X5_personx : Room := { frames := 7, cells := 1, slots := 6, locals := 103 }
set_option maxRecDepth 100000 in
set_option maxHeartbeats 4000000 in
theorem c_X5_personx (l : Launch) (htr : l.stackTraces = false) (D : va_G) (cA : ClassId) (ad : Nat → Nat) (g : Nat → Nat → Int32) (z : Nat → Nat) (w : Int32) (hw : ¬ q_r w (z 0)) (hc : (z 0) ≤ 16) : q_CX l yX5_person [Cond.code yX5_person cX5_person 2 (some .int)] rm_X5_personx D cA [.ref (ad 70), .int w] (rlW cA ad g z) "java/lang/IndexOutOfBoundsException" (rlW cA ad g z) := by
  refine q_startX RX5 (by decide +kernel) rfl (Nat.le_of_ble_eq_true rfl) ?_
  intro p e s m below meth c A args H locs ls hx hb hr hml hown hT hlk hP hK hD hA hS hl hout hX hZ
  have hl : lv_has ls 2 [(0, .ref (ad 70)), (1, .int w)] := hl
  refine lv_aload_n hx hb dX5_person_0 rfl (lv_at hl 0 rfl) ?_
  refine lv_iload_n hx hb dX5_person_1 rfl (lv_at hl 1 rfl) ?_
  exact q_callXW (As := [.int w]) hx hb hml hown hT hK hP hD hS hA hout hlk hX hZ (c_X5_needMentionx l htr D cA ad g z w hw (show (z 0) ≤ 16 by omega)) k_X5_needMention kl_X5_131 (q0 := 0) rfl rfl rfl hl rfl rfl (Nat.le_of_ble_eq_true rfl) ⟨⟨rfl, rfl⟩, Nat.le_of_ble_eq_true rfl, Nat.le_of_ble_eq_true rfl⟩ ⟨Nat.le_of_ble_eq_true rfl, Nat.le_of_ble_eq_true rfl⟩ dX5_person_2
abbrev rm_X5_entry : Room := { frames := 2, cells := 0, slots := 0, locals := 42 }
set_option maxRecDepth 100000 in
set_option maxHeartbeats 4000000 in
theorem c_X5_entry (l : Launch) (D : va_G) (cA : ClassId) (ad : Nat → Nat) (g : Nat → Nat → Int32) (z : Nat → Nat) (k : Nat) (hk : k < (z 2)) (hm9 : (z 2) ≤ 40) : q_CI l yX5_entry [Cond.code yX5_entry cX5_entry 2 (some .int)] rm_X5_entry D cA [.ref (ad 70), .int (nI k)] (rlW cA ad g z) ((g 23) k) (rlW cA ad g z) := by
  refine q_startI RX5 (by decide +kernel) rfl (Nat.le_of_ble_eq_true rfl) ?_
  intro p e s m below meth c A args H locs ls hx hb hr hml hown hT hlk hP hK hD hA hS hl
  have hl : lv_has ls 2 [(0, .ref (ad 70)), (1, .int (nI k))] := hl
  refine lv_aload_n hx hb dX5_entry_0 rfl (lv_at hl 0 rfl) ?_
  refine lv_iload_n hx hb dX5_entry_1 rfl (lv_at hl 1 rfl) ?_
  refine q_callVW (As := [.int (nI k)]) (w1 := rlW cA ad g z) hx hb hml hown hT hK hP hD hS hA (c_X5_needPerson l D cA ad g z (nI k) (q_r_nI (by omega)) (show (z 2) ≤ 40 by omega)) k_X5_needPerson kl_X5_175 (q0 := 0) rfl rfl rfl ((rlW_adr _ _ _ _).trans (rlW_adr _ _ _ _).symm) hl rfl rfl (Nat.le_of_ble_eq_true rfl) ⟨⟨rfl, rfl⟩, Nat.le_of_ble_eq_true rfl, Nat.le_of_ble_eq_true rfl⟩ ⟨Nat.zero_le _, Nat.zero_le _⟩ dX5_entry_2 (fun H locs hP hD hS => ?_)
  refine lv_aload_n hx hb dX5_entry_5 rfl (lv_at hl 0 rfl) ?_
  refine q_get hx hb hT hown hK hP kw_X5 0 rfl rfl 11 (by decide) kf_X5_59 rfl (v := .ref (ad 72)) rfl dX5_entry_6 ?_
  refine lv_iload_n hx hb dX5_entry_9 rfl (lv_at hl 1 rfl) ?_
  refine q_callIS (As := [.int (nI k)]) (r := (g 23) k) (wc := psW cA ad g z) (w1 := psW cA ad g z) (ws1 := rlW cA ad g z) hx hb hml hown hT hK hP hD hS hA (c_X2_leadOf l D cA ad g z k (show k < 40 by omega)) k_X2_leadOf kl_X5_178 (q0 := 0) rfl rfl rfl (rl_a cA ad g z ++ yrW cA ad g z) (gpW cA ad g z) (List.append_assoc _ _ _).symm (rl_p rfl rfl rfl) ((psW_adr _ _ _ _).trans (psW_adr _ _ _ _).symm) hl rfl rfl (Nat.le_of_ble_eq_true rfl) ⟨⟨rfl, rfl⟩, Nat.le_of_ble_eq_true rfl, Nat.le_of_ble_eq_true rfl⟩ ⟨Nat.zero_le _, Nat.zero_le _⟩ dX5_entry_10 (fun H locs hP hD hS => ?_)
  exact q_iret hx hb hr hlk (by rfl) hP hS dX5_entry_13
abbrev rm_X5_entryx : Room := { frames := 7, cells := 1, slots := 6, locals := 103 }
set_option maxRecDepth 100000 in
set_option maxHeartbeats 4000000 in
theorem c_X5_entryx (l : Launch) (htr : l.stackTraces = false) (D : va_G) (cA : ClassId) (ad : Nat → Nat) (g : Nat → Nat → Int32) (z : Nat → Nat) (w : Int32) (hw : ¬ q_r w (z 2)) (hm9 : (z 2) ≤ 40) : q_CX l yX5_entry [Cond.code yX5_entry cX5_entry 2 (some .int)] rm_X5_entryx D cA [.ref (ad 70), .int w] (rlW cA ad g z) "java/lang/IndexOutOfBoundsException" (rlW cA ad g z) := by
  refine q_startX RX5 (by decide +kernel) rfl (Nat.le_of_ble_eq_true rfl) ?_
  intro p e s m below meth c A args H locs ls hx hb hr hml hown hT hlk hP hK hD hA hS hl hout hX hZ
  have hl : lv_has ls 2 [(0, .ref (ad 70)), (1, .int w)] := hl
  refine lv_aload_n hx hb dX5_entry_0 rfl (lv_at hl 0 rfl) ?_
  refine lv_iload_n hx hb dX5_entry_1 rfl (lv_at hl 1 rfl) ?_
  exact q_callXW (As := [.int w]) hx hb hml hown hT hK hP hD hS hA hout hlk hX hZ (c_X5_needPersonx l htr D cA ad g z w hw (show (z 2) ≤ 40 by omega)) k_X5_needPerson kl_X5_175 (q0 := 0) rfl rfl rfl hl rfl rfl (Nat.le_of_ble_eq_true rfl) ⟨⟨rfl, rfl⟩, Nat.le_of_ble_eq_true rfl, Nat.le_of_ble_eq_true rfl⟩ ⟨Nat.le_of_ble_eq_true rfl, Nat.le_of_ble_eq_true rfl⟩ dX5_entry_2
abbrev rm_X5_size : Room := { frames := 3, cells := 0, slots := 0, locals := 65 }
set_option maxRecDepth 100000 in
set_option maxHeartbeats 4000000 in
theorem c_X5_size (l : Launch) (D : va_G) (cA : ClassId) (ad : Nat → Nat) (g : Nat → Nat → Int32) (z : Nat → Nat) (k : Nat) (hk : k < (z 2)) (hm9 : (z 2) ≤ 40) (hc : (z 0) ≤ 16) : q_CI l yX5_size [Cond.code yX5_size cX5_size 2 (some .int)] rm_X5_size D cA [.ref (ad 70), .int (nI k)] (rlW cA ad g z) (nI (cntN (g 22) (g 23 k) (z 0))) (rlW cA ad g z) := by
  refine q_startI RX5 (by decide +kernel) rfl (Nat.le_of_ble_eq_true rfl) ?_
  intro p e s m below meth c A args H locs ls hx hb hr hml hown hT hlk hP hK hD hA hS hl
  have hl : lv_has ls 2 [(0, .ref (ad 70)), (1, .int (nI k))] := hl
  refine lv_aload_n hx hb dX5_size_0 rfl (lv_at hl 0 rfl) ?_
  refine lv_iload_n hx hb dX5_size_1 rfl (lv_at hl 1 rfl) ?_
  refine q_callVW (As := [.int (nI k)]) (w1 := rlW cA ad g z) hx hb hml hown hT hK hP hD hS hA (c_X5_needPerson l D cA ad g z (nI k) (q_r_nI (by omega)) (show (z 2) ≤ 40 by omega)) k_X5_needPerson kl_X5_175 (q0 := 0) rfl rfl rfl ((rlW_adr _ _ _ _).trans (rlW_adr _ _ _ _).symm) hl rfl rfl (Nat.le_of_ble_eq_true rfl) ⟨⟨rfl, rfl⟩, Nat.le_of_ble_eq_true rfl, Nat.le_of_ble_eq_true rfl⟩ ⟨Nat.zero_le _, Nat.zero_le _⟩ dX5_size_2 (fun H locs hP hD hS => ?_)
  refine lv_aload_n hx hb dX5_size_5 rfl (lv_at hl 0 rfl) ?_
  refine lv_aload_n hx hb dX5_size_6 rfl (lv_at hl 0 rfl) ?_
  refine q_get hx hb hT hown hK hP kw_X5 0 rfl rfl 11 (by decide) kf_X5_59 rfl (v := .ref (ad 72)) rfl dX5_size_7 ?_
  refine lv_iload_n hx hb dX5_size_10 rfl (lv_at hl 1 rfl) ?_
  refine q_callIS (As := [.int (nI k)]) (r := (g 23) k) (wc := psW cA ad g z) (w1 := psW cA ad g z) (ws1 := rlW cA ad g z) hx hb hml hown hT hK hP hD hS hA (c_X2_leadOf l D cA ad g z k (show k < 40 by omega)) k_X2_leadOf kl_X5_178 (q0 := 0) rfl rfl rfl (rl_a cA ad g z ++ yrW cA ad g z) (gpW cA ad g z) (List.append_assoc _ _ _).symm (rl_p rfl rfl rfl) ((psW_adr _ _ _ _).trans (psW_adr _ _ _ _).symm) hl rfl rfl (Nat.le_of_ble_eq_true rfl) ⟨⟨rfl, rfl⟩, Nat.le_of_ble_eq_true rfl, Nat.le_of_ble_eq_true rfl⟩ ⟨Nat.zero_le _, Nat.zero_le _⟩ dX5_size_11 (fun H locs hP hD hS => ?_)
  refine q_callIW (As := [.int ((g 23) k)]) (r := nI (cntN (g 22) ((g 23) k) (z 0))) (w1 := rlW cA ad g z) hx hb hml hown hT hK hP hD hS hA (c_X5_mentionsOf l D cA ad g z ((g 23) k) (show (z 0) ≤ 16 by omega)) k_X5_mentionsOf kl_X5_170 (q0 := 0) rfl rfl rfl ((rlW_adr _ _ _ _).trans (rlW_adr _ _ _ _).symm) hl rfl rfl (Nat.le_of_ble_eq_true rfl) ⟨⟨rfl, rfl⟩, Nat.le_of_ble_eq_true rfl, Nat.le_of_ble_eq_true rfl⟩ ⟨Nat.zero_le _, Nat.zero_le _⟩ dX5_size_14 (fun H locs hP hD hS => ?_)
  exact q_iret hx hb hr hlk (by rfl) hP hS dX5_size_17
abbrev rm_X5_sizex : Room := { frames := 7, cells := 1, slots := 6, locals := 103 }
set_option maxRecDepth 100000 in
set_option maxHeartbeats 4000000 in
theorem c_X5_sizex (l : Launch) (htr : l.stackTraces = false) (D : va_G) (cA : ClassId) (ad : Nat → Nat) (g : Nat → Nat → Int32) (z : Nat → Nat) (w : Int32) (hw : ¬ q_r w (z 2)) (hm9 : (z 2) ≤ 40) : q_CX l yX5_size [Cond.code yX5_size cX5_size 2 (some .int)] rm_X5_sizex D cA [.ref (ad 70), .int w] (rlW cA ad g z) "java/lang/IndexOutOfBoundsException" (rlW cA ad g z) := by
  refine q_startX RX5 (by decide +kernel) rfl (Nat.le_of_ble_eq_true rfl) ?_
  intro p e s m below meth c A args H locs ls hx hb hr hml hown hT hlk hP hK hD hA hS hl hout hX hZ
  have hl : lv_has ls 2 [(0, .ref (ad 70)), (1, .int w)] := hl
  refine lv_aload_n hx hb dX5_size_0 rfl (lv_at hl 0 rfl) ?_
  refine lv_iload_n hx hb dX5_size_1 rfl (lv_at hl 1 rfl) ?_
  exact q_callXW (As := [.int w]) hx hb hml hown hT hK hP hD hS hA hout hlk hX hZ (c_X5_needPersonx l htr D cA ad g z w hw (show (z 2) ≤ 40 by omega)) k_X5_needPerson kl_X5_175 (q0 := 0) rfl rfl rfl hl rfl rfl (Nat.le_of_ble_eq_true rfl) ⟨⟨rfl, rfl⟩, Nat.le_of_ble_eq_true rfl, Nat.le_of_ble_eq_true rfl⟩ ⟨Nat.le_of_ble_eq_true rfl, Nat.le_of_ble_eq_true rfl⟩ dX5_size_2
abbrev rm_X5_careerAt : Room := { frames := 4, cells := 0, slots := 0, locals := 88 }
set_option maxRecDepth 100000 in
set_option maxHeartbeats 4000000 in
theorem c_X5_careerAt (l : Launch) (D : va_G) (cA : ClassId) (ad : Nat → Nat) (g : Nat → Nat → Int32) (z : Nat → Nat) (k : Nat) (pl : Nat) (hk : k < (z 2)) (hm9 : (z 2) ≤ 40) (hc : (z 0) ≤ 16) (hpl : pl < 2147483648) : q_CI l yX5_careerAt [Cond.code yX5_careerAt cX5_careerAt 4 (some .int)] rm_X5_careerAt D cA [.ref (ad 70), .int (nI k), .int (nI pl)] (rlW cA ad g z) (if pl < layL g (g 23 k) (z 0) then layR g (g 23 k) (z 0) pl else (-1)) (rlW cA ad (gs g 6 (layR g (g 23 k) (z 0))) z) := by
  refine q_startI RX5 (by decide +kernel) rfl (Nat.le_of_ble_eq_true rfl) ?_
  intro p e s m below meth c A args H locs ls hx hb hr hml hown hT hlk hP hK hD hA hS hl
  have hl : lv_has ls 4 [(0, .ref (ad 70)), (1, .int (nI k)), (2, .int (nI pl))] := hl
  have hll := layL_le g (g 23 k) (z 0)
  have zqJ49 : ∀ (H : Heap) (locs : List Loc) (ls : Array Slot), va_P D vwCl (rlW cA ad (gs g 6 (layR g (g 23 k) (z 0))) z) H → va_D A (rlW cA ad (gs g 6 (layR g (g 23 k) (z 0))) z) → va_S A s.heap H locs → lv_has ls 4 [(0, .ref (ad 70)), (1, .int (nI k)), (2, .int (nI pl))] → W p l e rm_X5_careerAt s m args below meth c H locs 0 0 (q_GI D (if pl < layL g (g 23 k) (z 0) then layR g (g 23 k) (z 0) pl else (-1)) (rlW cA ad (gs g 6 (layR g (g 23 k) (z 0))) z) A below args s) (F0 m 49 ls [.int (if pl < layL g (g 23 k) (z 0) then layR g (g 23 k) (z 0) pl else (-1))]) := by
    intro   H locs ls hP hD hS hl
    exact q_iret hx hb hr hlk (by rfl) hP hS dX5_careerAt_49
  refine lv_aload_n hx hb dX5_careerAt_0 rfl (lv_at hl 0 rfl) ?_
  refine lv_iload_n hx hb dX5_careerAt_1 rfl (lv_at hl 1 rfl) ?_
  refine q_callVW (As := [.int (nI k)]) (w1 := rlW cA ad g z) hx hb hml hown hT hK hP hD hS hA (c_X5_needPerson l D cA ad g z (nI k) (q_r_nI (by omega)) (show (z 2) ≤ 40 by omega)) k_X5_needPerson kl_X5_175 (q0 := 0) rfl rfl rfl ((rlW_adr _ _ _ _).trans (rlW_adr _ _ _ _).symm) hl rfl rfl (Nat.le_of_ble_eq_true rfl) ⟨⟨rfl, rfl⟩, Nat.le_of_ble_eq_true rfl, Nat.le_of_ble_eq_true rfl⟩ ⟨Nat.zero_le _, Nat.zero_le _⟩ dX5_careerAt_2 (fun H locs hP hD hS => ?_)
  refine lv_iload_n hx hb dX5_careerAt_5 rfl (lv_at hl 2 rfl) ?_
  refine lv_if_ge (tgt := 19) hx hb dX5_careerAt_6 (by decide) (fun c_6 => ?_) (fun c_6 => ?_)
  · have c_6 := nI_le1 (a := 0) (b := pl) (by omega) (by omega) c_6
    refine lv_aload_n hx hb dX5_careerAt_19 rfl (lv_at hl 0 rfl) ?_
    refine lv_aload_n hx hb dX5_careerAt_20 rfl (lv_at hl 0 rfl) ?_
    refine q_get hx hb hT hown hK hP kw_X5 0 rfl rfl 11 (by decide) kf_X5_59 rfl (v := .ref (ad 72)) rfl dX5_careerAt_21 ?_
    refine lv_iload_n hx hb dX5_careerAt_24 rfl (lv_at hl 1 rfl) ?_
    refine q_callIS (As := [.int (nI k)]) (r := (g 23) k) (wc := psW cA ad g z) (w1 := psW cA ad g z) (ws1 := rlW cA ad g z) hx hb hml hown hT hK hP hD hS hA (c_X2_leadOf l D cA ad g z k (show k < 40 by omega)) k_X2_leadOf kl_X5_178 (q0 := 0) rfl rfl rfl (rl_a cA ad g z ++ yrW cA ad g z) (gpW cA ad g z) (List.append_assoc _ _ _).symm (rl_p rfl rfl rfl) ((psW_adr _ _ _ _).trans (psW_adr _ _ _ _).symm) hl rfl rfl (Nat.le_of_ble_eq_true rfl) ⟨⟨rfl, rfl⟩, Nat.le_of_ble_eq_true rfl, Nat.le_of_ble_eq_true rfl⟩ ⟨Nat.zero_le _, Nat.zero_le _⟩ dX5_careerAt_25 (fun H locs hP hD hS => ?_)
    refine q_callIW (As := [.int ((g 23) k)]) (r := nI (layL g ((g 23) k) (z 0))) (w1 := rlW cA ad (gs g 6 (layR g ((g 23) k) (z 0))) z) hx hb hml hown hT hK hP hD hS hA (c_X5_layOutCareer l D cA ad g z ((g 23) k) (show (z 0) ≤ 16 by omega)) k_X5_layOutCareer kl_X5_186 (q0 := 0) rfl rfl rfl ((rlW_adr _ _ _ _).trans (rlW_adr _ _ _ _).symm) hl rfl rfl (Nat.le_of_ble_eq_true rfl) ⟨⟨rfl, rfl⟩, Nat.le_of_ble_eq_true rfl, Nat.le_of_ble_eq_true rfl⟩ ⟨Nat.zero_le _, Nat.zero_le _⟩ dX5_careerAt_28 (fun H locs hP hD hS => ?_)
    obtain ⟨nF28_6, enF28_6⟩ : ∃ y : Nat → Int32, y = layR g ((g 23) k) (z 0) := ⟨_, rfl⟩
    have hP : va_P D vwCl (rlW cA ad (gs g 6 nF28_6) z) H := by rw [enF28_6]; exact hP
    have hD : va_D A (rlW cA ad (gs g 6 nF28_6) z) := by rw [enF28_6]; exact hD
    refine lv_istore_n (lv' := [(3, .int (nI (layL g ((g 23) k) (z 0)))), (0, .ref (ad 70)), (1, .int (nI k)), (2, .int (nI pl))]) hx hb dX5_careerAt_31 rfl hl (by decide) rfl (fun ls hl => ?_)
    refine lv_iload_n hx hb dX5_careerAt_32 rfl (lv_at hl 3 rfl) ?_
    refine lv_iload_n hx hb dX5_careerAt_33 rfl (lv_at hl 0 rfl) ?_
    refine lv_icmp_ge (tgt := 48) hx hb dX5_careerAt_34 (by decide) (fun c_34 => ?_) (fun c_34 => ?_)
    · have c_34 := nI_le1 (a := layL g ((g 23) k) (z 0)) (b := pl) (by omega) (by omega) c_34
      refine lv_iconst (v := (-1)) hx hb dX5_careerAt_48 (by decide +kernel) ?_
      rw [enF28_6] at hP hD
      refine q_top (y := (if pl < layL g (g 23 k) (z 0) then layR g (g 23 k) (z 0) pl else (-1))) (by first | rw [if_pos (by omega)] | rw [if_neg (by omega)]) ?_
      exact zqJ49   _ _ _ hP hD hS (lv_sub hl [1, 2, 3] rfl)
    · have c_34 := nI_le0 (a := layL g ((g 23) k) (z 0)) (b := pl) (by omega) (by omega) c_34
      refine lv_aload_n hx hb dX5_careerAt_37 rfl (lv_at hl 1 rfl) ?_
      refine q_get hx hb hT hown hK hP kw_X5 0 rfl rfl 13 (by decide) kf_X5_70 rfl (v := .ref (ad 6)) rfl dX5_careerAt_38 ?_
      refine lv_iload_n hx hb dX5_careerAt_41 rfl (lv_at hl 3 rfl) ?_
      refine q_callI (As := [.int (nI pl)]) (r := nF28_6 pl) (wc := rowW cA (ad 6) (ad 36) 16 nF28_6) (w1 := rowW cA (ad 6) (ad 36) 16 nF28_6) (ws1 := rlW cA ad (gs g 6 nF28_6) z) hx hb hml hown hT hK hP hD hS hA (c_X3_atN l D cA (ad 6) (ad 36) 16 nF28_6 pl (by omega) (by omega)) k_X3_at kl_X5_105 (q0 := 0) rfl rfl rfl [13, 14] rfl rfl rfl rfl hl rfl rfl (Nat.le_of_ble_eq_true rfl) ⟨⟨rfl, rfl⟩, Nat.le_of_ble_eq_true rfl, Nat.le_of_ble_eq_true rfl⟩ ⟨Nat.zero_le _, Nat.zero_le _⟩ dX5_careerAt_42 (fun H locs hP hD hS => ?_)
      refine lv_goto (tgt := 49) hx hb dX5_careerAt_45 (by decide) ?_
      rw [enF28_6] at hP hD
      rw [enF28_6]
      refine q_top (y := (if pl < layL g (g 23 k) (z 0) then layR g (g 23 k) (z 0) pl else (-1))) (by first | rw [if_pos (by omega)] | rw [if_neg (by omega)]) ?_
      exact zqJ49   _ _ _ hP hD hS (lv_sub hl [1, 2, 3] rfl)
  · have c_6 := nI_le0 (a := 0) (b := pl) (by omega) (by omega) c_6
    exfalso; omega
abbrev rm_X5_careerAtx : Room := { frames := 7, cells := 1, slots := 6, locals := 103 }
set_option maxRecDepth 100000 in
set_option maxHeartbeats 4000000 in
theorem c_X5_careerAtx (l : Launch) (htr : l.stackTraces = false) (D : va_G) (cA : ClassId) (ad : Nat → Nat) (g : Nat → Nat → Int32) (z : Nat → Nat) (w : Int32) (x : Int32) (hw : ¬ q_r w (z 2)) (hm9 : (z 2) ≤ 40) : q_CX l yX5_careerAt [Cond.code yX5_careerAt cX5_careerAt 4 (some .int)] rm_X5_careerAtx D cA [.ref (ad 70), .int w, .int x] (rlW cA ad g z) "java/lang/IndexOutOfBoundsException" (rlW cA ad g z) := by
  refine q_startX RX5 (by decide +kernel) rfl (Nat.le_of_ble_eq_true rfl) ?_
  intro p e s m below meth c A args H locs ls hx hb hr hml hown hT hlk hP hK hD hA hS hl hout hX hZ
  have hl : lv_has ls 4 [(0, .ref (ad 70)), (1, .int w), (2, .int x)] := hl
  refine lv_aload_n hx hb dX5_careerAt_0 rfl (lv_at hl 0 rfl) ?_
  refine lv_iload_n hx hb dX5_careerAt_1 rfl (lv_at hl 1 rfl) ?_
  exact q_callXW (As := [.int w]) hx hb hml hown hT hK hP hD hS hA hout hlk hX hZ (c_X5_needPersonx l htr D cA ad g z w hw (show (z 2) ≤ 40 by omega)) k_X5_needPerson kl_X5_175 (q0 := 0) rfl rfl rfl hl rfl rfl (Nat.le_of_ble_eq_true rfl) ⟨⟨rfl, rfl⟩, Nat.le_of_ble_eq_true rfl, Nat.le_of_ble_eq_true rfl⟩ ⟨Nat.le_of_ble_eq_true rfl, Nat.le_of_ble_eq_true rfl⟩ dX5_careerAt_2
abbrev rm_X5_careerAtx2 : Room := { frames := 6, cells := 1, slots := 6, locals := 82 }
set_option maxRecDepth 100000 in
set_option maxHeartbeats 4000000 in
theorem c_X5_careerAtx2 (l : Launch) (htr : l.stackTraces = false) (D : va_G) (cA : ClassId) (ad : Nat → Nat) (g : Nat → Nat → Int32) (z : Nat → Nat) (k : Nat) (x : Int32) (hk : k < (z 2)) (hm9 : (z 2) ≤ 40) (hx9 : x < 0) : q_CX l yX5_careerAt [Cond.code yX5_careerAt cX5_careerAt 4 (some .int)] rm_X5_careerAtx2 D cA [.ref (ad 70), .int (nI k), .int x] (rlW cA ad g z) "java/lang/IndexOutOfBoundsException" (rlW cA ad g z) := by
  refine q_startX RX5 (by decide +kernel) rfl (Nat.le_of_ble_eq_true rfl) ?_
  intro p e s m below meth c A args H locs ls hx hb hr hml hown hT hlk hP hK hD hA hS hl hout hX hZ
  have hl : lv_has ls 4 [(0, .ref (ad 70)), (1, .int (nI k)), (2, .int x)] := hl
  refine lv_aload_n hx hb dX5_careerAt_0 rfl (lv_at hl 0 rfl) ?_
  refine lv_iload_n hx hb dX5_careerAt_1 rfl (lv_at hl 1 rfl) ?_
  refine q_callVW (As := [.int (nI k)]) (w1 := rlW cA ad g z) hx hb hml hown hT hK hP hD hS hA (c_X5_needPerson l D cA ad g z (nI k) (q_r_nI (by omega)) (show (z 2) ≤ 40 by omega)) k_X5_needPerson kl_X5_175 (q0 := 0) rfl rfl rfl ((rlW_adr _ _ _ _).trans (rlW_adr _ _ _ _).symm) hl rfl rfl (Nat.le_of_ble_eq_true rfl) ⟨⟨rfl, rfl⟩, Nat.le_of_ble_eq_true rfl, Nat.le_of_ble_eq_true rfl⟩ ⟨Nat.zero_le _, Nat.zero_le _⟩ dX5_careerAt_2 (fun H locs hP hD hS => ?_)
  refine lv_iload_n hx hb dX5_careerAt_5 rfl (lv_at hl 2 rfl) ?_
  refine lv_if_ge (tgt := 19) hx hb dX5_careerAt_6 (by decide) (fun c_6 => ?_) (fun c_6 => ?_)
  · exact absurd hx9 (q_nlt9 c_6)
  · exact q_throw (text := "the place is below 0") hx hb htr hml hown hT hX hZ hP hS hl hout hlk kx_X5_181 ki_java_lang_IndexOutOfBoundsException (by decide +kernel) q_ok_iob (by decide +kernel) dX5_careerAt_9 dX5_careerAt_12 dX5_careerAt_13 dX5_careerAt_15 dX5_careerAt_18 ⟨Nat.le_of_ble_eq_true rfl, Nat.le_of_ble_eq_true rfl, Nat.le_of_ble_eq_true rfl, Nat.le_of_ble_eq_true rfl⟩
theorem brN_end {f : Nat → Int32} {k n : Nat} (h : k ≤ n ∨ k = 1) (h2 : n ≤ k) : brN f k = brN f n := by
  rcases Nat.lt_or_ge n k with q | q
  · have h3 : k = 1 := by omega
    have h4 : n = 0 := by omega
    subst h3 h4; rfl
  · rw [show k = n by omega]
abbrev rm_X5_breaches : Room := { frames := 4, cells := 0, slots := 0, locals := 88 }
set_option maxRecDepth 100000 in
set_option maxHeartbeats 4000000 in
theorem c_X5_breaches (l : Launch) (D : va_G) (cA : ClassId) (ad : Nat → Nat) (g : Nat → Nat → Int32) (z : Nat → Nat) (k : Nat) (hk : k < (z 2)) (hm9 : (z 2) ≤ 40) (hc : (z 0) ≤ 16) : q_CI l yX5_breaches [Cond.code yX5_breaches cX5_breaches 5 (some .int)] rm_X5_breaches D cA [.ref (ad 70), .int (nI k)] (rlW cA ad g z) (nI (brN (rkC g (layR g (g 23 k) (z 0))) (layL g (g 23 k) (z 0)))) (rlW cA ad (gs g 6 (layR g (g 23 k) (z 0))) z) := by
  refine q_startI RX5 (by decide +kernel) rfl (Nat.le_of_ble_eq_true rfl) ?_
  intro p e s m below meth c A args H locs ls hx hb hr hml hown hT hlk hP hK hD hA hS hl
  have hl : lv_has ls 5 [(0, .ref (ad 70)), (1, .int (nI k))] := hl
  have hll := layL_le g (g 23 k) (z 0)
  have zqL23 : ∀ (fu : Nat), ∀ (pl : Nat), (layL g (g 23 k) (z 0) + 2 ≤ pl + fu) → (0 < pl) → (pl ≤ layL g (g 23 k) (z 0) ∨ pl = 1) → ∀ (H : Heap) (locs : List Loc) (ls : Array Slot), va_P D vwCl (rlW cA ad (gs g 6 (layR g (g 23 k) (z 0))) z) H → va_D A (rlW cA ad (gs g 6 (layR g (g 23 k) (z 0))) z) → va_S A s.heap H locs → lv_has ls 5 [(0, .ref (ad 70)), (1, .int (nI k)), (2, .int (nI (layL g (g 23 k) (z 0)))), (3, .int (nI (brN (rkC g (layR g (g 23 k) (z 0))) pl))), (4, .int (nI pl))] → W p l e rm_X5_breaches s m args below meth c H locs 0 0 (q_GI D (nI (brN (rkC g (layR g (g 23 k) (z 0))) (layL g (g 23 k) (z 0)))) (rlW cA ad (gs g 6 (layR g (g 23 k) (z 0))) z) A below args s) (F0 m 23 ls []) := by
    intro fu
    induction fu with
    | zero =>
      intro pl hfu hp0 hp1 H locs ls hP hD hS hl
      exfalso; omega
    | succ fu ih23 =>
      intro pl hfu hp0 hp1 H locs ls hP hD hS hl
      have zqJ49 : (pl < layL g (g 23 k) (z 0)) → ∀ (H : Heap) (locs : List Loc) (ls : Array Slot), va_P D vwCl (rlW cA ad (gs g 6 (layR g (g 23 k) (z 0))) z) H → va_D A (rlW cA ad (gs g 6 (layR g (g 23 k) (z 0))) z) → va_S A s.heap H locs → lv_has ls 5 [(0, .ref (ad 70)), (1, .int (nI k)), (2, .int (nI (layL g (g 23 k) (z 0)))), (3, .int (nI (brN (rkC g (layR g (g 23 k) (z 0))) (pl + 1)))), (4, .int (nI pl))] → W p l e rm_X5_breaches s m args below meth c H locs 0 0 (q_GI D (nI (brN (rkC g (layR g (g 23 k) (z 0))) (layL g (g 23 k) (z 0)))) (rlW cA ad (gs g 6 (layR g (g 23 k) (z 0))) z) A below args s) (F0 m 49 ls []) := by
        intro  hp9 H locs ls hP hD hS hl
        refine lv_iinc (v := nI (pl + 1)) (lv' := [(4, .int (nI (pl + 1))), (0, .ref (ad 70)), (1, .int (nI k)), (2, .int (nI (layL g (g 23 k) (z 0)))), (3, .int (nI (brN (rkC g (layR g (g 23 k) (z 0))) (pl + 1))))]) hx hb dX5_breaches_49 hl (k := 4) rfl (q_inc1 _) (by decide) rfl (fun ls hl => ?_)
        refine lv_goto (tgt := 23) hx hb dX5_breaches_52 (by decide) ?_
        exact ih23 (pl + 1) (by omega) (by omega) (by omega) _ _ _ hP hD hS (lv_sub hl [1, 2, 3, 4, 0] rfl)
      refine lv_iload hx hb dX5_breaches_23 (lv_at hl 4 rfl) ?_
      refine lv_iload_n hx hb dX5_breaches_25 rfl (lv_at hl 2 rfl) ?_
      refine lv_icmp_ge (tgt := 55) hx hb dX5_breaches_26 (by decide) (fun c_26 => ?_) (fun c_26 => ?_)
      · have c_26 := nI_le1 (a := layL g (g 23 k) (z 0)) (b := pl) (by omega) (by omega) c_26
        refine lv_iload_n hx hb dX5_breaches_55 rfl (lv_at hl 3 rfl) ?_
        exact q_iret hx hb hr hlk (by exact congrArg nI (brN_end hp1 c_26)) hP hS dX5_breaches_56
      · have c_26 := nI_le0 (a := layL g (g 23 k) (z 0)) (b := pl) (by omega) (by omega) c_26
        refine lv_aload_n hx hb dX5_breaches_29 rfl (lv_at hl 0 rfl) ?_
        refine lv_iload hx hb dX5_breaches_30 (lv_at hl 4 rfl) ?_
        refine q_callIW (As := [.int (nI pl)]) (r := rAt 8 (g 5) (rAt 16 (g 3) ((layR g (g 23 k) (z 0)) pl))) (w1 := rlW cA ad (gs g 6 (layR g (g 23 k) (z 0))) z) hx hb hml hown hT hK hP hD hS hA (c_X5_rankAt l D cA ad (gs g 6 (layR g (g 23 k) (z 0))) z pl (show pl < 16 by omega)) k_X5_rankAt kl_X5_189 (q0 := 0) rfl rfl rfl ((rlW_adr _ _ _ _).trans (rlW_adr _ _ _ _).symm) hl rfl rfl (Nat.le_of_ble_eq_true rfl) ⟨⟨rfl, rfl⟩, Nat.le_of_ble_eq_true rfl, Nat.le_of_ble_eq_true rfl⟩ ⟨Nat.zero_le _, Nat.zero_le _⟩ dX5_breaches_32 (fun H locs hP hD hS => ?_)
        refine lv_aload_n hx hb dX5_breaches_35 rfl (lv_at hl 0 rfl) ?_
        refine lv_iload hx hb dX5_breaches_36 (lv_at hl 4 rfl) ?_
        refine lv_iconst (v := nI 1) hx hb dX5_breaches_38 (by decide +kernel) ?_
        refine lv_isub hx hb dX5_breaches_39 ?_
        refine q_top (y := nI (pl - 1)) (pk_sub (by omega)) ?_
        refine q_callIW (As := [.int (nI (pl - 1))]) (r := rAt 8 (g 5) (rAt 16 (g 3) ((layR g (g 23 k) (z 0)) (pl - 1)))) (w1 := rlW cA ad (gs g 6 (layR g (g 23 k) (z 0))) z) hx hb hml hown hT hK hP hD hS hA (c_X5_rankAt l D cA ad (gs g 6 (layR g (g 23 k) (z 0))) z (pl - 1) (show (pl - 1) < 16 by omega)) k_X5_rankAt kl_X5_189 (q0 := 0) rfl rfl rfl ((rlW_adr _ _ _ _).trans (rlW_adr _ _ _ _).symm) hl rfl rfl (Nat.le_of_ble_eq_true rfl) ⟨⟨rfl, rfl⟩, Nat.le_of_ble_eq_true rfl, Nat.le_of_ble_eq_true rfl⟩ ⟨Nat.zero_le _, Nat.zero_le _⟩ dX5_breaches_40 (fun H locs hP hD hS => ?_)
        refine lv_icmp_ge (tgt := 49) hx hb dX5_breaches_43 (by decide) (fun c_43 => ?_) (fun c_43 => ?_)
        · have d_43 := q_nlt9 c_43
          have e9_0 : (nI (brN (rkC g (layR g (g 23 k) (z 0))) pl)) = (nI (brN (rkC g (layR g (g 23 k) (z 0))) (pl + 1))) := by first | with_reducible rfl | (first | exact congrArg nI (brN_f d_43) | exact congrArg nI (brN_t hp0 d_43))
          have hl9 : lv_has ls 5 [(0, .ref (ad 70)), (1, .int (nI k)), (2, .int (nI (layL g (g 23 k) (z 0)))), (3, .int (nI (brN (rkC g (layR g (g 23 k) (z 0))) (pl + 1)))), (4, .int (nI pl))] := lv_cast (l := [(0, .ref (ad 70)), (1, .int (nI k)), (2, .int (nI (layL g (g 23 k) (z 0)))), (3, .int (nI (brN (rkC g (layR g (g 23 k) (z 0))) pl))), (4, .int (nI pl))]) (lv_sub hl [0, 1, 2, 3, 4] rfl) (congrArg (fun v9 : Int32 => ([(0, .ref (ad 70)), (1, .int (nI k)), (2, .int (nI (layL g (g 23 k) (z 0)))), (3, .int v9), (4, .int (nI pl))] : List (Nat × Value))) e9_0)
          exact zqJ49  (by omega) _ _ _ hP hD hS hl9
        · have d_43 := q_lt9 c_43
          refine lv_iinc (v := nI ((brN (rkC g (layR g (g 23 k) (z 0))) pl) + 1)) (lv' := [(3, .int (nI ((brN (rkC g (layR g (g 23 k) (z 0))) pl) + 1))), (0, .ref (ad 70)), (1, .int (nI k)), (2, .int (nI (layL g (g 23 k) (z 0)))), (4, .int (nI pl))]) hx hb dX5_breaches_46 hl (k := 3) rfl (q_inc1 _) (by decide) rfl (fun ls hl => ?_)
          have e9_0 : (nI ((brN (rkC g (layR g (g 23 k) (z 0))) pl) + 1)) = (nI (brN (rkC g (layR g (g 23 k) (z 0))) (pl + 1))) := by first | with_reducible rfl | (first | exact congrArg nI (brN_f d_43) | exact congrArg nI (brN_t hp0 d_43))
          have hl9 : lv_has ls 5 [(0, .ref (ad 70)), (1, .int (nI k)), (2, .int (nI (layL g (g 23 k) (z 0)))), (3, .int (nI (brN (rkC g (layR g (g 23 k) (z 0))) (pl + 1)))), (4, .int (nI pl))] := lv_cast (l := [(0, .ref (ad 70)), (1, .int (nI k)), (2, .int (nI (layL g (g 23 k) (z 0)))), (3, .int (nI ((brN (rkC g (layR g (g 23 k) (z 0))) pl) + 1))), (4, .int (nI pl))]) (lv_sub hl [1, 2, 3, 0, 4] rfl) (congrArg (fun v9 : Int32 => ([(0, .ref (ad 70)), (1, .int (nI k)), (2, .int (nI (layL g (g 23 k) (z 0)))), (3, .int v9), (4, .int (nI pl))] : List (Nat × Value))) e9_0)
          exact zqJ49  (by omega) _ _ _ hP hD hS hl9
  refine lv_aload_n hx hb dX5_breaches_0 rfl (lv_at hl 0 rfl) ?_
  refine lv_iload_n hx hb dX5_breaches_1 rfl (lv_at hl 1 rfl) ?_
  refine q_callVW (As := [.int (nI k)]) (w1 := rlW cA ad g z) hx hb hml hown hT hK hP hD hS hA (c_X5_needPerson l D cA ad g z (nI k) (q_r_nI (by omega)) (show (z 2) ≤ 40 by omega)) k_X5_needPerson kl_X5_175 (q0 := 0) rfl rfl rfl ((rlW_adr _ _ _ _).trans (rlW_adr _ _ _ _).symm) hl rfl rfl (Nat.le_of_ble_eq_true rfl) ⟨⟨rfl, rfl⟩, Nat.le_of_ble_eq_true rfl, Nat.le_of_ble_eq_true rfl⟩ ⟨Nat.zero_le _, Nat.zero_le _⟩ dX5_breaches_2 (fun H locs hP hD hS => ?_)
  refine lv_aload_n hx hb dX5_breaches_5 rfl (lv_at hl 0 rfl) ?_
  refine lv_aload_n hx hb dX5_breaches_6 rfl (lv_at hl 0 rfl) ?_
  refine q_get hx hb hT hown hK hP kw_X5 0 rfl rfl 11 (by decide) kf_X5_59 rfl (v := .ref (ad 72)) rfl dX5_breaches_7 ?_
  refine lv_iload_n hx hb dX5_breaches_10 rfl (lv_at hl 1 rfl) ?_
  refine q_callIS (As := [.int (nI k)]) (r := (g 23) k) (wc := psW cA ad g z) (w1 := psW cA ad g z) (ws1 := rlW cA ad g z) hx hb hml hown hT hK hP hD hS hA (c_X2_leadOf l D cA ad g z k (show k < 40 by omega)) k_X2_leadOf kl_X5_178 (q0 := 0) rfl rfl rfl (rl_a cA ad g z ++ yrW cA ad g z) (gpW cA ad g z) (List.append_assoc _ _ _).symm (rl_p rfl rfl rfl) ((psW_adr _ _ _ _).trans (psW_adr _ _ _ _).symm) hl rfl rfl (Nat.le_of_ble_eq_true rfl) ⟨⟨rfl, rfl⟩, Nat.le_of_ble_eq_true rfl, Nat.le_of_ble_eq_true rfl⟩ ⟨Nat.zero_le _, Nat.zero_le _⟩ dX5_breaches_11 (fun H locs hP hD hS => ?_)
  refine q_callIW (As := [.int ((g 23) k)]) (r := nI (layL g ((g 23) k) (z 0))) (w1 := rlW cA ad (gs g 6 (layR g ((g 23) k) (z 0))) z) hx hb hml hown hT hK hP hD hS hA (c_X5_layOutCareer l D cA ad g z ((g 23) k) (show (z 0) ≤ 16 by omega)) k_X5_layOutCareer kl_X5_186 (q0 := 0) rfl rfl rfl ((rlW_adr _ _ _ _).trans (rlW_adr _ _ _ _).symm) hl rfl rfl (Nat.le_of_ble_eq_true rfl) ⟨⟨rfl, rfl⟩, Nat.le_of_ble_eq_true rfl, Nat.le_of_ble_eq_true rfl⟩ ⟨Nat.zero_le _, Nat.zero_le _⟩ dX5_breaches_14 (fun H locs hP hD hS => ?_)
  obtain ⟨nF14_6, enF14_6⟩ : ∃ y : Nat → Int32, y = layR g ((g 23) k) (z 0) := ⟨_, rfl⟩
  have hP : va_P D vwCl (rlW cA ad (gs g 6 nF14_6) z) H := by rw [enF14_6]; exact hP
  have hD : va_D A (rlW cA ad (gs g 6 nF14_6) z) := by rw [enF14_6]; exact hD
  refine lv_istore_n (lv' := [(2, .int (nI (layL g ((g 23) k) (z 0)))), (0, .ref (ad 70)), (1, .int (nI k))]) hx hb dX5_breaches_17 rfl hl (by decide) rfl (fun ls hl => ?_)
  refine lv_iconst (v := nI 0) hx hb dX5_breaches_18 (by decide +kernel) ?_
  refine lv_istore_n (lv' := [(3, .int (nI 0)), (2, .int (nI (layL g ((g 23) k) (z 0)))), (0, .ref (ad 70)), (1, .int (nI k))]) hx hb dX5_breaches_19 rfl hl (by decide) rfl (fun ls hl => ?_)
  refine lv_iconst (v := nI 1) hx hb dX5_breaches_20 (by decide +kernel) ?_
  refine lv_istore (lv' := [(4, .int (nI 1)), (3, .int (nI 0)), (2, .int (nI (layL g ((g 23) k) (z 0)))), (0, .ref (ad 70)), (1, .int (nI k))]) hx hb dX5_breaches_21 hl (by decide) rfl (fun ls hl => ?_)
  rw [enF14_6] at hP hD
  have e9_0 : (nI 0) = (nI (brN (rkC g (layR g (g 23 k) (z 0))) 1)) := by first | with_reducible rfl | (rw [brN_1])
  have hl9 : lv_has ls 5 [(0, .ref (ad 70)), (1, .int (nI k)), (2, .int (nI (layL g (g 23 k) (z 0)))), (3, .int (nI (brN (rkC g (layR g (g 23 k) (z 0))) 1))), (4, .int (nI 1))] := lv_cast (l := [(0, .ref (ad 70)), (1, .int (nI k)), (2, .int (nI (layL g ((g 23) k) (z 0)))), (3, .int (nI 0)), (4, .int (nI 1))]) (lv_sub hl [3, 4, 2, 1, 0] rfl) (congrArg (fun v9 : Int32 => ([(0, .ref (ad 70)), (1, .int (nI k)), (2, .int (nI (layL g ((g 23) k) (z 0)))), (3, .int v9), (4, .int (nI 1))] : List (Nat × Value))) e9_0)
  exact zqL23 (layL g (g 23 k) (z 0) + 2) 1 (by omega) (by omega) (by omega) _ _ _ hP hD hS hl9
abbrev rm_X5_breachesx : Room := { frames := 7, cells := 1, slots := 6, locals := 103 }
set_option maxRecDepth 100000 in
set_option maxHeartbeats 4000000 in
theorem c_X5_breachesx (l : Launch) (htr : l.stackTraces = false) (D : va_G) (cA : ClassId) (ad : Nat → Nat) (g : Nat → Nat → Int32) (z : Nat → Nat) (w : Int32) (hw : ¬ q_r w (z 2)) (hm9 : (z 2) ≤ 40) : q_CX l yX5_breaches [Cond.code yX5_breaches cX5_breaches 5 (some .int)] rm_X5_breachesx D cA [.ref (ad 70), .int w] (rlW cA ad g z) "java/lang/IndexOutOfBoundsException" (rlW cA ad g z) := by
  refine q_startX RX5 (by decide +kernel) rfl (Nat.le_of_ble_eq_true rfl) ?_
  intro p e s m below meth c A args H locs ls hx hb hr hml hown hT hlk hP hK hD hA hS hl hout hX hZ
  have hl : lv_has ls 5 [(0, .ref (ad 70)), (1, .int w)] := hl
  refine lv_aload_n hx hb dX5_breaches_0 rfl (lv_at hl 0 rfl) ?_
  refine lv_iload_n hx hb dX5_breaches_1 rfl (lv_at hl 1 rfl) ?_
  exact q_callXW (As := [.int w]) hx hb hml hown hT hK hP hD hS hA hout hlk hX hZ (c_X5_needPersonx l htr D cA ad g z w hw (show (z 2) ≤ 40 by omega)) k_X5_needPerson kl_X5_175 (q0 := 0) rfl rfl rfl hl rfl rfl (Nat.le_of_ble_eq_true rfl) ⟨⟨rfl, rfl⟩, Nat.le_of_ble_eq_true rfl, Nat.le_of_ble_eq_true rfl⟩ ⟨Nat.le_of_ble_eq_true rfl, Nat.le_of_ble_eq_true rfl⟩ dX5_breaches_2
abbrev rm_X5_degree : Room := { frames := 5, cells := 0, slots := 0, locals := 112 }
set_option maxRecDepth 100000 in
set_option maxHeartbeats 4000000 in
theorem c_X5_degree (l : Launch) (D : va_G) (cA : ClassId) (ad : Nat → Nat) (g : Nat → Nat → Int32) (z : Nat → Nat) (a : Nat) (b : Nat) (ha : a < (z 2)) (hb9 : b < (z 2)) (hm9 : (z 2) ≤ 40) (hc : (z 0) ≤ 16) (hO : ∀ k, k < (z 0) → q_r ((g 22) k) 40) (hLd : ∀ k, k < (z 2) → q_r ((g 23) k) 40) : q_CI l yX5_degree [Cond.code yX5_degree cX5_degree 3 (some .int)] rm_X5_degree D cA [.ref (ad 70), .int (nI a), .int (nI b)] (rlW cA ad g z) (sbN (g 22) (g 11) (upd (fun _ => (-1)) (q_n (g 23 a)) (nI 0)) (z 0) (q_n (g 23 b)) (z 0) (q_n (g 23 b))) (rlW cA ad (gs g 7 (sbN (g 22) (g 11) (upd (fun _ => (-1)) (q_n (g 23 a)) (nI 0)) (z 0) (q_n (g 23 b)) (z 0))) z) := by
  refine q_startI RX5 (by decide +kernel) rfl (Nat.le_of_ble_eq_true rfl) ?_
  intro p e s m below meth c A args H locs ls hx hb hr hml hown hT hlk hP hK hD hA hS hl
  have hl : lv_has ls 3 [(0, .ref (ad 70)), (1, .int (nI a)), (2, .int (nI b))] := hl
  refine lv_aload_n hx hb dX5_degree_0 rfl (lv_at hl 0 rfl) ?_
  refine lv_iload_n hx hb dX5_degree_1 rfl (lv_at hl 1 rfl) ?_
  refine q_callVW (As := [.int (nI a)]) (w1 := rlW cA ad g z) hx hb hml hown hT hK hP hD hS hA (c_X5_needPerson l D cA ad g z (nI a) (q_r_nI (by omega)) (show (z 2) ≤ 40 by omega)) k_X5_needPerson kl_X5_175 (q0 := 0) rfl rfl rfl ((rlW_adr _ _ _ _).trans (rlW_adr _ _ _ _).symm) hl rfl rfl (Nat.le_of_ble_eq_true rfl) ⟨⟨rfl, rfl⟩, Nat.le_of_ble_eq_true rfl, Nat.le_of_ble_eq_true rfl⟩ ⟨Nat.zero_le _, Nat.zero_le _⟩ dX5_degree_2 (fun H locs hP hD hS => ?_)
  refine lv_aload_n hx hb dX5_degree_5 rfl (lv_at hl 0 rfl) ?_
  refine lv_iload_n hx hb dX5_degree_6 rfl (lv_at hl 2 rfl) ?_
  refine q_callVW (As := [.int (nI b)]) (w1 := rlW cA ad g z) hx hb hml hown hT hK hP hD hS hA (c_X5_needPerson l D cA ad g z (nI b) (q_r_nI (by omega)) (show (z 2) ≤ 40 by omega)) k_X5_needPerson kl_X5_175 (q0 := 0) rfl rfl rfl ((rlW_adr _ _ _ _).trans (rlW_adr _ _ _ _).symm) hl rfl rfl (Nat.le_of_ble_eq_true rfl) ⟨⟨rfl, rfl⟩, Nat.le_of_ble_eq_true rfl, Nat.le_of_ble_eq_true rfl⟩ ⟨Nat.zero_le _, Nat.zero_le _⟩ dX5_degree_7 (fun H locs hP hD hS => ?_)
  refine lv_aload_n hx hb dX5_degree_10 rfl (lv_at hl 0 rfl) ?_
  refine lv_aload_n hx hb dX5_degree_11 rfl (lv_at hl 0 rfl) ?_
  refine q_get hx hb hT hown hK hP kw_X5 0 rfl rfl 11 (by decide) kf_X5_59 rfl (v := .ref (ad 72)) rfl dX5_degree_12 ?_
  refine lv_iload_n hx hb dX5_degree_15 rfl (lv_at hl 1 rfl) ?_
  refine q_callIS (As := [.int (nI a)]) (r := (g 23) a) (wc := psW cA ad g z) (w1 := psW cA ad g z) (ws1 := rlW cA ad g z) hx hb hml hown hT hK hP hD hS hA (c_X2_leadOf l D cA ad g z a (show a < 40 by omega)) k_X2_leadOf kl_X5_178 (q0 := 0) rfl rfl rfl (rl_a cA ad g z ++ yrW cA ad g z) (gpW cA ad g z) (List.append_assoc _ _ _).symm (rl_p rfl rfl rfl) ((psW_adr _ _ _ _).trans (psW_adr _ _ _ _).symm) hl rfl rfl (Nat.le_of_ble_eq_true rfl) ⟨⟨rfl, rfl⟩, Nat.le_of_ble_eq_true rfl, Nat.le_of_ble_eq_true rfl⟩ ⟨Nat.zero_le _, Nat.zero_le _⟩ dX5_degree_16 (fun H locs hP hD hS => ?_)
  refine q_top (y := nI (q_n (g 23 a))) ((hLd a (by omega)).eq (by omega)) ?_
  refine lv_aload_n hx hb dX5_degree_19 rfl (lv_at hl 0 rfl) ?_
  refine q_get hx hb hT hown hK hP kw_X5 0 rfl rfl 11 (by decide) kf_X5_59 rfl (v := .ref (ad 72)) rfl dX5_degree_20 ?_
  refine lv_iload_n hx hb dX5_degree_23 rfl (lv_at hl 2 rfl) ?_
  refine q_callIS (As := [.int (nI b)]) (r := (g 23) b) (wc := psW cA ad g z) (w1 := psW cA ad g z) (ws1 := rlW cA ad g z) hx hb hml hown hT hK hP hD hS hA (c_X2_leadOf l D cA ad g z b (show b < 40 by omega)) k_X2_leadOf kl_X5_178 (q0 := 0) rfl rfl rfl (rl_a cA ad g z ++ yrW cA ad g z) (gpW cA ad g z) (List.append_assoc _ _ _).symm (rl_p rfl rfl rfl) ((psW_adr _ _ _ _).trans (psW_adr _ _ _ _).symm) hl rfl rfl (Nat.le_of_ble_eq_true rfl) ⟨⟨rfl, rfl⟩, Nat.le_of_ble_eq_true rfl, Nat.le_of_ble_eq_true rfl⟩ ⟨Nat.zero_le _, Nat.zero_le _⟩ dX5_degree_24 (fun H locs hP hD hS => ?_)
  refine q_top (y := nI (q_n (g 23 b))) ((hLd b (by omega)).eq (by omega)) ?_
  refine q_callIW (As := [.int (nI (q_n (g 23 a))), .int (nI (q_n (g 23 b)))]) (r := sbN (g 22) (g 11) (upd (fun _ => (-1)) (q_n (g 23 a)) (nI 0)) (z 0) (q_n (g 23 b)) (z 0) (q_n (g 23 b))) (w1 := rlW cA ad (gs g 7 (sbN (g 22) (g 11) (upd (fun _ => (-1)) (q_n (g 23 a)) (nI 0)) (z 0) (q_n (g 23 b)) (z 0))) z) hx hb hml hown hT hK hP hD hS hA (c_X5_stepsBetween l D cA ad g z (q_n (g 23 a)) (q_n (g 23 b)) ((hLd a (by omega)).lt (by omega)) ((hLd b (by omega)).lt (by omega)) (show (z 0) ≤ 16 by omega) hO) k_X5_stepsBetween kl_X5_192 (q0 := 0) rfl rfl rfl ((rlW_adr _ _ _ _).trans (rlW_adr _ _ _ _).symm) hl rfl rfl (Nat.le_of_ble_eq_true rfl) ⟨⟨rfl, rfl⟩, Nat.le_of_ble_eq_true rfl, Nat.le_of_ble_eq_true rfl⟩ ⟨Nat.zero_le _, Nat.zero_le _⟩ dX5_degree_27 (fun H locs hP hD hS => ?_)
  obtain ⟨nF27_7, enF27_7⟩ : ∃ y : Nat → Int32, y = sbN (g 22) (g 11) (upd (fun _ => (-1)) (q_n (g 23 a)) (nI 0)) (z 0) (q_n (g 23 b)) (z 0) := ⟨_, rfl⟩
  have hP : va_P D vwCl (rlW cA ad (gs g 7 nF27_7) z) H := by rw [enF27_7]; exact hP
  have hD : va_D A (rlW cA ad (gs g 7 nF27_7) z) := by rw [enF27_7]; exact hD
  rw [enF27_7] at hP hD
  exact q_iret hx hb hr hlk (by rfl) hP hS dX5_degree_30
abbrev rm_X5_degreex : Room := { frames := 7, cells := 1, slots := 6, locals := 103 }
set_option maxRecDepth 100000 in
set_option maxHeartbeats 4000000 in
theorem c_X5_degreex (l : Launch) (htr : l.stackTraces = false) (D : va_G) (cA : ClassId) (ad : Nat → Nat) (g : Nat → Nat → Int32) (z : Nat → Nat) (x : Int32) (y : Int32) (hx9 : ¬ q_r x (z 2)) (hm9 : (z 2) ≤ 40) : q_CX l yX5_degree [Cond.code yX5_degree cX5_degree 3 (some .int)] rm_X5_degreex D cA [.ref (ad 70), .int x, .int y] (rlW cA ad g z) "java/lang/IndexOutOfBoundsException" (rlW cA ad g z) := by
  refine q_startX RX5 (by decide +kernel) rfl (Nat.le_of_ble_eq_true rfl) ?_
  intro p e s m below meth c A args H locs ls hx hb hr hml hown hT hlk hP hK hD hA hS hl hout hX hZ
  have hl : lv_has ls 3 [(0, .ref (ad 70)), (1, .int x), (2, .int y)] := hl
  refine lv_aload_n hx hb dX5_degree_0 rfl (lv_at hl 0 rfl) ?_
  refine lv_iload_n hx hb dX5_degree_1 rfl (lv_at hl 1 rfl) ?_
  exact q_callXW (As := [.int x]) hx hb hml hown hT hK hP hD hS hA hout hlk hX hZ (c_X5_needPersonx l htr D cA ad g z x hx9 (show (z 2) ≤ 40 by omega)) k_X5_needPerson kl_X5_175 (q0 := 0) rfl rfl rfl hl rfl rfl (Nat.le_of_ble_eq_true rfl) ⟨⟨rfl, rfl⟩, Nat.le_of_ble_eq_true rfl, Nat.le_of_ble_eq_true rfl⟩ ⟨Nat.le_of_ble_eq_true rfl, Nat.le_of_ble_eq_true rfl⟩ dX5_degree_2
abbrev rm_X5_degreex2 : Room := { frames := 7, cells := 1, slots := 6, locals := 103 }
set_option maxRecDepth 100000 in
set_option maxHeartbeats 4000000 in
theorem c_X5_degreex2 (l : Launch) (htr : l.stackTraces = false) (D : va_G) (cA : ClassId) (ad : Nat → Nat) (g : Nat → Nat → Int32) (z : Nat → Nat) (x : Int32) (y : Int32) (hx9 : q_r x (z 2)) (hy9 : ¬ q_r y (z 2)) (hm9 : (z 2) ≤ 40) : q_CX l yX5_degree [Cond.code yX5_degree cX5_degree 3 (some .int)] rm_X5_degreex2 D cA [.ref (ad 70), .int x, .int y] (rlW cA ad g z) "java/lang/IndexOutOfBoundsException" (rlW cA ad g z) := by
  refine q_startX RX5 (by decide +kernel) rfl (Nat.le_of_ble_eq_true rfl) ?_
  intro p e s m below meth c A args H locs ls hx hb hr hml hown hT hlk hP hK hD hA hS hl hout hX hZ
  have hl : lv_has ls 3 [(0, .ref (ad 70)), (1, .int x), (2, .int y)] := hl
  refine lv_aload_n hx hb dX5_degree_0 rfl (lv_at hl 0 rfl) ?_
  refine lv_iload_n hx hb dX5_degree_1 rfl (lv_at hl 1 rfl) ?_
  refine q_callVW (As := [.int x]) (w1 := rlW cA ad g z) hx hb hml hown hT hK hP hD hS hA (c_X5_needPerson l D cA ad g z x hx9 (show (z 2) ≤ 40 by omega)) k_X5_needPerson kl_X5_175 (q0 := 0) rfl rfl rfl ((rlW_adr _ _ _ _).trans (rlW_adr _ _ _ _).symm) hl rfl rfl (Nat.le_of_ble_eq_true rfl) ⟨⟨rfl, rfl⟩, Nat.le_of_ble_eq_true rfl, Nat.le_of_ble_eq_true rfl⟩ ⟨Nat.zero_le _, Nat.zero_le _⟩ dX5_degree_2 (fun H locs hP hD hS => ?_)
  refine lv_aload_n hx hb dX5_degree_5 rfl (lv_at hl 0 rfl) ?_
  refine lv_iload_n hx hb dX5_degree_6 rfl (lv_at hl 2 rfl) ?_
  exact q_callXW (As := [.int y]) hx hb hml hown hT hK hP hD hS hA hout hlk hX hZ (c_X5_needPersonx l htr D cA ad g z y hy9 (show (z 2) ≤ 40 by omega)) k_X5_needPerson kl_X5_175 (q0 := 0) rfl rfl rfl hl rfl rfl (Nat.le_of_ble_eq_true rfl) ⟨⟨rfl, rfl⟩, Nat.le_of_ble_eq_true rfl, Nat.le_of_ble_eq_true rfl⟩ ⟨Nat.le_of_ble_eq_true rfl, Nat.le_of_ble_eq_true rfl⟩ dX5_degree_7
abbrev rm_X5_best : Room := { frames := 5, cells := 0, slots := 0, locals := 112 }
set_option maxRecDepth 100000 in
set_option maxHeartbeats 4000000 in
theorem c_X5_best (l : Launch) (D : va_G) (cA : ClassId) (ad : Nat → Nat) (g : Nat → Nat → Int32) (z : Nat → Nat) (n : Nat) (hn9 : n < 2 ^ (z 0)) (hb9 : pcN n ≤ 6) (hc : (z 0) ≤ 16) : q_CI l yX5_best [Cond.code yX5_best cX5_best 2 (some .int)] rm_X5_best D cA [.ref (ad 70), .int (nI n)] (rlW cA ad g z) (bpB (lpO (wopM g (lopM (nI n) (g 24) (z 0))) (g 25) (bitC (nI n) (z 0)) (bitC (nI n) (z 0))) (g 26) (g 27) (bitC (nI n) (z 0)) (2 ^ (bitC (nI n) (z 0)) - 1) (2 ^ (bitC (nI n) (z 0)) - 1)) (rlW cA ad (gs (gs (gs (gs g 24 (lopM (nI n) (g 24) (z 0))) 25 (lpO (wopM g (lopM (nI n) (g 24) (z 0))) (g 25) (bitC (nI n) (z 0)) (bitC (nI n) (z 0)))) 26 (bpG (lpO (wopM g (lopM (nI n) (g 24) (z 0))) (g 25) (bitC (nI n) (z 0)) (bitC (nI n) (z 0))) (g 26) (bitC (nI n) (z 0)) (2 ^ (bitC (nI n) (z 0)) - 1))) 27 (bpB (lpO (wopM g (lopM (nI n) (g 24) (z 0))) (g 25) (bitC (nI n) (z 0)) (bitC (nI n) (z 0))) (g 26) (g 27) (bitC (nI n) (z 0)) (2 ^ (bitC (nI n) (z 0)) - 1))) (zs z 3 (bitC (nI n) (z 0)))) := by
  refine q_startI RX5 (by decide +kernel) rfl (Nat.le_of_ble_eq_true rfl) ?_
  intro p e s m below meth c A args H locs ls hx hb hr hml hown hT hlk hP hK hD hA hS hl
  have hl : lv_has ls 2 [(0, .ref (ad 70)), (1, .int (nI n))] := hl
  have hbc : bitC (nI n) (z 0) ≤ 6 := by rw [bitC_pcN hn9 hc]; exact hb9
  refine lv_aload_n hx hb dX5_best_0 rfl (lv_at hl 0 rfl) ?_
  refine lv_iload_n hx hb dX5_best_1 rfl (lv_at hl 1 rfl) ?_
  refine q_callVW (As := [.int (nI n)]) (w1 := rlW cA ad g z) hx hb hml hown hT hK hP hD hS hA (c_X5_needFewMentions l D cA ad g z n hn9 hb9 (show (z 0) ≤ 16 by omega)) k_X5_needFewMentions kl_X5_195 (q0 := 0) rfl rfl rfl ((rlW_adr _ _ _ _).trans (rlW_adr _ _ _ _).symm) hl rfl rfl (Nat.le_of_ble_eq_true rfl) ⟨⟨rfl, rfl⟩, Nat.le_of_ble_eq_true rfl, Nat.le_of_ble_eq_true rfl⟩ ⟨Nat.zero_le _, Nat.zero_le _⟩ dX5_best_2 (fun H locs hP hD hS => ?_)
  refine lv_aload_n hx hb dX5_best_5 rfl (lv_at hl 0 rfl) ?_
  refine lv_iload_n hx hb dX5_best_6 rfl (lv_at hl 1 rfl) ?_
  refine q_callVW (As := [.int (nI n)]) (w1 := rlW cA ad (gs (gs g 24 (lopM (nI n) (g 24) (z 0))) 25 (lpO (wopM g (lopM (nI n) (g 24) (z 0))) (g 25) (bitC (nI n) (z 0)) (bitC (nI n) (z 0)))) (zs z 3 (bitC (nI n) (z 0)))) hx hb hml hown hT hK hP hD hS hA (c_X5_layOutPairs l D cA ad g z (nI n) (show (z 0) ≤ 16 by omega) (show bitC (nI n) (z 0) ≤ 6 by omega)) k_X5_layOutPairs kl_X5_198 (q0 := 0) rfl rfl rfl ((rlW_adr _ _ _ _).trans (rlW_adr _ _ _ _).symm) hl rfl rfl (Nat.le_of_ble_eq_true rfl) ⟨⟨rfl, rfl⟩, Nat.le_of_ble_eq_true rfl, Nat.le_of_ble_eq_true rfl⟩ ⟨Nat.zero_le _, Nat.zero_le _⟩ dX5_best_7 (fun H locs hP hD hS => ?_)
  refine lv_aload_n hx hb dX5_best_10 rfl (lv_at hl 0 rfl) ?_
  refine q_get hx hb hT hown hK hP kw_X5 0 rfl rfl 12 (by decide) kf_X5_66 rfl (v := .ref (ad 73)) rfl dX5_best_11 ?_
  refine q_callIS (As := []) (r := bpB (lpO (wopM g (lopM (nI n) (g 24) (z 0))) (g 25) (bitC (nI n) (z 0)) (bitC (nI n) (z 0))) (g 26) (g 27) (bitC (nI n) (z 0)) (2 ^ (bitC (nI n) (z 0)) - 1) (2 ^ (bitC (nI n) (z 0)) - 1)) (wc := gpW cA ad (gs (gs g 24 (lopM (nI n) (g 24) (z 0))) 25 (lpO (wopM g (lopM (nI n) (g 24) (z 0))) (g 25) (bitC (nI n) (z 0)) (bitC (nI n) (z 0)))) (zs z 3 (bitC (nI n) (z 0)))) (w1 := gpW cA ad (gs (gs (gs (gs g 24 (lopM (nI n) (g 24) (z 0))) 25 (lpO (wopM g (lopM (nI n) (g 24) (z 0))) (g 25) (bitC (nI n) (z 0)) (bitC (nI n) (z 0)))) 26 (bpG (lpO (wopM g (lopM (nI n) (g 24) (z 0))) (g 25) (bitC (nI n) (z 0)) (bitC (nI n) (z 0))) (g 26) (bitC (nI n) (z 0)) (2 ^ (bitC (nI n) (z 0)) - 1))) 27 (bpB (lpO (wopM g (lopM (nI n) (g 24) (z 0))) (g 25) (bitC (nI n) (z 0)) (bitC (nI n) (z 0))) (g 26) (g 27) (bitC (nI n) (z 0)) (2 ^ (bitC (nI n) (z 0)) - 1))) (zs z 3 (bitC (nI n) (z 0)))) (ws1 := rlW cA ad (gs (gs (gs (gs g 24 (lopM (nI n) (g 24) (z 0))) 25 (lpO (wopM g (lopM (nI n) (g 24) (z 0))) (g 25) (bitC (nI n) (z 0)) (bitC (nI n) (z 0)))) 26 (bpG (lpO (wopM g (lopM (nI n) (g 24) (z 0))) (g 25) (bitC (nI n) (z 0)) (bitC (nI n) (z 0))) (g 26) (bitC (nI n) (z 0)) (2 ^ (bitC (nI n) (z 0)) - 1))) 27 (bpB (lpO (wopM g (lopM (nI n) (g 24) (z 0))) (g 25) (bitC (nI n) (z 0)) (bitC (nI n) (z 0))) (g 26) (g 27) (bitC (nI n) (z 0)) (2 ^ (bitC (nI n) (z 0)) - 1))) (zs z 3 (bitC (nI n) (z 0)))) hx hb hml hown hT hK hP hD hS hA (c_X0_bestByParts l D cA ad (gs (gs g 24 (lopM (nI n) (g 24) (z 0))) 25 (lpO (wopM g (lopM (nI n) (g 24) (z 0))) (g 25) (bitC (nI n) (z 0)) (bitC (nI n) (z 0)))) (zs z 3 (bitC (nI n) (z 0))) (show (bitC (nI n) (z 0)) ≤ 6 by omega)) k_X0_bestByParts kl_X5_201 (q0 := 0) rfl rfl rfl ((rl_a cA ad (gs (gs g 24 (lopM (nI n) (g 24) (z 0))) 25 (lpO (wopM g (lopM (nI n) (g 24) (z 0))) (g 25) (bitC (nI n) (z 0)) (bitC (nI n) (z 0)))) (zs z 3 (bitC (nI n) (z 0))) ++ yrW cA ad (gs (gs g 24 (lopM (nI n) (g 24) (z 0))) 25 (lpO (wopM g (lopM (nI n) (g 24) (z 0))) (g 25) (bitC (nI n) (z 0)) (bitC (nI n) (z 0)))) (zs z 3 (bitC (nI n) (z 0)))) ++ psW cA ad (gs (gs g 24 (lopM (nI n) (g 24) (z 0))) 25 (lpO (wopM g (lopM (nI n) (g 24) (z 0))) (g 25) (bitC (nI n) (z 0)) (bitC (nI n) (z 0)))) (zs z 3 (bitC (nI n) (z 0)))) [] rl_g0 (rl_g rfl rfl rfl) ((gpW_adr _ _ _ _).trans (gpW_adr _ _ _ _).symm) hl rfl rfl (Nat.le_of_ble_eq_true rfl) ⟨⟨rfl, rfl⟩, Nat.le_of_ble_eq_true rfl, Nat.le_of_ble_eq_true rfl⟩ ⟨Nat.zero_le _, Nat.zero_le _⟩ dX5_best_14 (fun H locs hP hD hS => ?_)
  exact q_iret hx hb hr hlk (by rfl) hP hS dX5_best_17
abbrev rm_X5_bestAnew : Room := { frames := 5, cells := 0, slots := 0, locals := 112 }
set_option maxRecDepth 100000 in
set_option maxHeartbeats 4000000 in
theorem c_X5_bestAnew (l : Launch) (D : va_G) (cA : ClassId) (ad : Nat → Nat) (g : Nat → Nat → Int32) (z : Nat → Nat) (n : Nat) (hn9 : n < 2 ^ (z 0)) (hb9 : pcN n ≤ 6) (hc : (z 0) ≤ 16) : q_CI l yX5_bestAnew [Cond.code yX5_bestAnew cX5_bestAnew 2 (some .int)] rm_X5_bestAnew D cA [.ref (ad 70), .int (nI n)] (rlW cA ad g z) (baF (lpO (wopM g (lopM (nI n) (g 24) (z 0))) (g 25) (bitC (nI n) (z 0)) (bitC (nI n) (z 0))) (bitC (nI n) (z 0)) 202 (fun _ => nI 0) (wOf (groT (fun _ => nI 0)) (lpO (wopM g (lopM (nI n) (g 24) (z 0))) (g 25) (bitC (nI n) (z 0)) (bitC (nI n) (z 0))) (bitC (nI n) (z 0)))) (rlW cA ad (gs (gs (gs g 24 (lopM (nI n) (g 24) (z 0))) 25 (lpO (wopM g (lopM (nI n) (g 24) (z 0))) (g 25) (bitC (nI n) (z 0)) (bitC (nI n) (z 0)))) 28 (baG (bitC (nI n) (z 0)) 202 (fun _ => nI 0))) (zs z 3 (bitC (nI n) (z 0)))) := by
  refine q_startI RX5 (by decide +kernel) rfl (Nat.le_of_ble_eq_true rfl) ?_
  intro p e s m below meth c A args H locs ls hx hb hr hml hown hT hlk hP hK hD hA hS hl
  have hl : lv_has ls 2 [(0, .ref (ad 70)), (1, .int (nI n))] := hl
  have hbc : bitC (nI n) (z 0) ≤ 6 := by rw [bitC_pcN hn9 hc]; exact hb9
  refine lv_aload_n hx hb dX5_bestAnew_0 rfl (lv_at hl 0 rfl) ?_
  refine lv_iload_n hx hb dX5_bestAnew_1 rfl (lv_at hl 1 rfl) ?_
  refine q_callVW (As := [.int (nI n)]) (w1 := rlW cA ad g z) hx hb hml hown hT hK hP hD hS hA (c_X5_needFewMentions l D cA ad g z n hn9 hb9 (show (z 0) ≤ 16 by omega)) k_X5_needFewMentions kl_X5_195 (q0 := 0) rfl rfl rfl ((rlW_adr _ _ _ _).trans (rlW_adr _ _ _ _).symm) hl rfl rfl (Nat.le_of_ble_eq_true rfl) ⟨⟨rfl, rfl⟩, Nat.le_of_ble_eq_true rfl, Nat.le_of_ble_eq_true rfl⟩ ⟨Nat.zero_le _, Nat.zero_le _⟩ dX5_bestAnew_2 (fun H locs hP hD hS => ?_)
  refine lv_aload_n hx hb dX5_bestAnew_5 rfl (lv_at hl 0 rfl) ?_
  refine lv_iload_n hx hb dX5_bestAnew_6 rfl (lv_at hl 1 rfl) ?_
  refine q_callVW (As := [.int (nI n)]) (w1 := rlW cA ad (gs (gs g 24 (lopM (nI n) (g 24) (z 0))) 25 (lpO (wopM g (lopM (nI n) (g 24) (z 0))) (g 25) (bitC (nI n) (z 0)) (bitC (nI n) (z 0)))) (zs z 3 (bitC (nI n) (z 0)))) hx hb hml hown hT hK hP hD hS hA (c_X5_layOutPairs l D cA ad g z (nI n) (show (z 0) ≤ 16 by omega) (show bitC (nI n) (z 0) ≤ 6 by omega)) k_X5_layOutPairs kl_X5_198 (q0 := 0) rfl rfl rfl ((rlW_adr _ _ _ _).trans (rlW_adr _ _ _ _).symm) hl rfl rfl (Nat.le_of_ble_eq_true rfl) ⟨⟨rfl, rfl⟩, Nat.le_of_ble_eq_true rfl, Nat.le_of_ble_eq_true rfl⟩ ⟨Nat.zero_le _, Nat.zero_le _⟩ dX5_bestAnew_7 (fun H locs hP hD hS => ?_)
  refine lv_aload_n hx hb dX5_bestAnew_10 rfl (lv_at hl 0 rfl) ?_
  refine q_get hx hb hT hown hK hP kw_X5 0 rfl rfl 12 (by decide) kf_X5_66 rfl (v := .ref (ad 73)) rfl dX5_bestAnew_11 ?_
  refine q_callIS (As := []) (r := baF (lpO (wopM g (lopM (nI n) (g 24) (z 0))) (g 25) (bitC (nI n) (z 0)) (bitC (nI n) (z 0))) (bitC (nI n) (z 0)) 202 (fun _ => nI 0) (wOf (groT (fun _ => nI 0)) (lpO (wopM g (lopM (nI n) (g 24) (z 0))) (g 25) (bitC (nI n) (z 0)) (bitC (nI n) (z 0))) (bitC (nI n) (z 0)))) (wc := gpW cA ad (gs (gs g 24 (lopM (nI n) (g 24) (z 0))) 25 (lpO (wopM g (lopM (nI n) (g 24) (z 0))) (g 25) (bitC (nI n) (z 0)) (bitC (nI n) (z 0)))) (zs z 3 (bitC (nI n) (z 0)))) (w1 := gpW cA ad (gs (gs (gs g 24 (lopM (nI n) (g 24) (z 0))) 25 (lpO (wopM g (lopM (nI n) (g 24) (z 0))) (g 25) (bitC (nI n) (z 0)) (bitC (nI n) (z 0)))) 28 (baG (bitC (nI n) (z 0)) 202 (fun _ => nI 0))) (zs z 3 (bitC (nI n) (z 0)))) (ws1 := rlW cA ad (gs (gs (gs g 24 (lopM (nI n) (g 24) (z 0))) 25 (lpO (wopM g (lopM (nI n) (g 24) (z 0))) (g 25) (bitC (nI n) (z 0)) (bitC (nI n) (z 0)))) 28 (baG (bitC (nI n) (z 0)) 202 (fun _ => nI 0))) (zs z 3 (bitC (nI n) (z 0)))) hx hb hml hown hT hK hP hD hS hA (c_X0_bestOfAll l D cA ad (gs (gs g 24 (lopM (nI n) (g 24) (z 0))) 25 (lpO (wopM g (lopM (nI n) (g 24) (z 0))) (g 25) (bitC (nI n) (z 0)) (bitC (nI n) (z 0)))) (zs z 3 (bitC (nI n) (z 0))) (show (bitC (nI n) (z 0)) ≤ 6 by omega)) k_X0_bestOfAll kl_X5_205 (q0 := 0) rfl rfl rfl ((rl_a cA ad (gs (gs g 24 (lopM (nI n) (g 24) (z 0))) 25 (lpO (wopM g (lopM (nI n) (g 24) (z 0))) (g 25) (bitC (nI n) (z 0)) (bitC (nI n) (z 0)))) (zs z 3 (bitC (nI n) (z 0))) ++ yrW cA ad (gs (gs g 24 (lopM (nI n) (g 24) (z 0))) 25 (lpO (wopM g (lopM (nI n) (g 24) (z 0))) (g 25) (bitC (nI n) (z 0)) (bitC (nI n) (z 0)))) (zs z 3 (bitC (nI n) (z 0)))) ++ psW cA ad (gs (gs g 24 (lopM (nI n) (g 24) (z 0))) 25 (lpO (wopM g (lopM (nI n) (g 24) (z 0))) (g 25) (bitC (nI n) (z 0)) (bitC (nI n) (z 0)))) (zs z 3 (bitC (nI n) (z 0)))) [] rl_g0 (rl_g rfl rfl rfl) ((gpW_adr _ _ _ _).trans (gpW_adr _ _ _ _).symm) hl rfl rfl (Nat.le_of_ble_eq_true rfl) ⟨⟨rfl, rfl⟩, Nat.le_of_ble_eq_true rfl, Nat.le_of_ble_eq_true rfl⟩ ⟨Nat.zero_le _, Nat.zero_le _⟩ dX5_bestAnew_14 (fun H locs hP hD hS => ?_)
  exact q_iret hx hb hr hlk (by rfl) hP hS dX5_bestAnew_17
abbrev rm_X5_bestx : Room := { frames := 7, cells := 1, slots := 6, locals := 103 }
set_option maxRecDepth 100000 in
set_option maxHeartbeats 4000000 in
theorem c_X5_bestx (l : Launch) (htr : l.stackTraces = false) (D : va_G) (cA : ClassId) (ad : Nat → Nat) (g : Nat → Nat → Int32) (z : Nat → Nat) (w : Int32) (hw : ¬ w >>> (nI (z 0) &&& 31) = 0) : q_CX l yX5_best [Cond.code yX5_best cX5_best 2 (some .int)] rm_X5_bestx D cA [.ref (ad 70), .int w] (rlW cA ad g z) "java/lang/IllegalArgumentException" (rlW cA ad g z) := by
  refine q_startX RX5 (by decide +kernel) rfl (Nat.le_of_ble_eq_true rfl) ?_
  intro p e s m below meth c A args H locs ls hx hb hr hml hown hT hlk hP hK hD hA hS hl hout hX hZ
  have hl : lv_has ls 2 [(0, .ref (ad 70)), (1, .int w)] := hl
  refine lv_aload_n hx hb dX5_best_0 rfl (lv_at hl 0 rfl) ?_
  refine lv_iload_n hx hb dX5_best_1 rfl (lv_at hl 1 rfl) ?_
  exact q_callXW (As := [.int w]) hx hb hml hown hT hK hP hD hS hA hout hlk hX hZ (c_X5_needFewMentionsx l htr D cA ad g z w hw) k_X5_needFewMentions kl_X5_195 (q0 := 0) rfl rfl rfl hl rfl rfl (Nat.le_of_ble_eq_true rfl) ⟨⟨rfl, rfl⟩, Nat.le_of_ble_eq_true rfl, Nat.le_of_ble_eq_true rfl⟩ ⟨Nat.le_of_ble_eq_true rfl, Nat.le_of_ble_eq_true rfl⟩ dX5_best_2
abbrev rm_X5_bestx2 : Room := { frames := 8, cells := 1, slots := 6, locals := 125 }
set_option maxRecDepth 100000 in
set_option maxHeartbeats 4000000 in
theorem c_X5_bestx2 (l : Launch) (htr : l.stackTraces = false) (D : va_G) (cA : ClassId) (ad : Nat → Nat) (g : Nat → Nat → Int32) (z : Nat → Nat) (n : Nat) (hn9 : n < 2 ^ (z 0)) (hb9 : 6 < pcN n) (hc : (z 0) ≤ 16) : q_CX l yX5_best [Cond.code yX5_best cX5_best 2 (some .int)] rm_X5_bestx2 D cA [.ref (ad 70), .int (nI n)] (rlW cA ad g z) "java/lang/IllegalArgumentException" (rlW cA ad g z) := by
  refine q_startX RX5 (by decide +kernel) rfl (Nat.le_of_ble_eq_true rfl) ?_
  intro p e s m below meth c A args H locs ls hx hb hr hml hown hT hlk hP hK hD hA hS hl hout hX hZ
  have hl : lv_has ls 2 [(0, .ref (ad 70)), (1, .int (nI n))] := hl
  refine lv_aload_n hx hb dX5_best_0 rfl (lv_at hl 0 rfl) ?_
  refine lv_iload_n hx hb dX5_best_1 rfl (lv_at hl 1 rfl) ?_
  exact q_callXW (As := [.int (nI n)]) hx hb hml hown hT hK hP hD hS hA hout hlk hX hZ (c_X5_needFewMentionsx2 l htr D cA ad g z n hn9 hb9 (show (z 0) ≤ 16 by omega)) k_X5_needFewMentions kl_X5_195 (q0 := 0) rfl rfl rfl hl rfl rfl (Nat.le_of_ble_eq_true rfl) ⟨⟨rfl, rfl⟩, Nat.le_of_ble_eq_true rfl, Nat.le_of_ble_eq_true rfl⟩ ⟨Nat.le_of_ble_eq_true rfl, Nat.le_of_ble_eq_true rfl⟩ dX5_best_2
abbrev rm_X5_bestAnewx : Room := { frames := 7, cells := 1, slots := 6, locals := 103 }
set_option maxRecDepth 100000 in
set_option maxHeartbeats 4000000 in
theorem c_X5_bestAnewx (l : Launch) (htr : l.stackTraces = false) (D : va_G) (cA : ClassId) (ad : Nat → Nat) (g : Nat → Nat → Int32) (z : Nat → Nat) (w : Int32) (hw : ¬ w >>> (nI (z 0) &&& 31) = 0) : q_CX l yX5_bestAnew [Cond.code yX5_bestAnew cX5_bestAnew 2 (some .int)] rm_X5_bestAnewx D cA [.ref (ad 70), .int w] (rlW cA ad g z) "java/lang/IllegalArgumentException" (rlW cA ad g z) := by
  refine q_startX RX5 (by decide +kernel) rfl (Nat.le_of_ble_eq_true rfl) ?_
  intro p e s m below meth c A args H locs ls hx hb hr hml hown hT hlk hP hK hD hA hS hl hout hX hZ
  have hl : lv_has ls 2 [(0, .ref (ad 70)), (1, .int w)] := hl
  refine lv_aload_n hx hb dX5_bestAnew_0 rfl (lv_at hl 0 rfl) ?_
  refine lv_iload_n hx hb dX5_bestAnew_1 rfl (lv_at hl 1 rfl) ?_
  exact q_callXW (As := [.int w]) hx hb hml hown hT hK hP hD hS hA hout hlk hX hZ (c_X5_needFewMentionsx l htr D cA ad g z w hw) k_X5_needFewMentions kl_X5_195 (q0 := 0) rfl rfl rfl hl rfl rfl (Nat.le_of_ble_eq_true rfl) ⟨⟨rfl, rfl⟩, Nat.le_of_ble_eq_true rfl, Nat.le_of_ble_eq_true rfl⟩ ⟨Nat.le_of_ble_eq_true rfl, Nat.le_of_ble_eq_true rfl⟩ dX5_bestAnew_2
abbrev rm_X5_bestAnewx2 : Room := { frames := 8, cells := 1, slots := 6, locals := 125 }
set_option maxRecDepth 100000 in
set_option maxHeartbeats 4000000 in
theorem c_X5_bestAnewx2 (l : Launch) (htr : l.stackTraces = false) (D : va_G) (cA : ClassId) (ad : Nat → Nat) (g : Nat → Nat → Int32) (z : Nat → Nat) (n : Nat) (hn9 : n < 2 ^ (z 0)) (hb9 : 6 < pcN n) (hc : (z 0) ≤ 16) : q_CX l yX5_bestAnew [Cond.code yX5_bestAnew cX5_bestAnew 2 (some .int)] rm_X5_bestAnewx2 D cA [.ref (ad 70), .int (nI n)] (rlW cA ad g z) "java/lang/IllegalArgumentException" (rlW cA ad g z) := by
  refine q_startX RX5 (by decide +kernel) rfl (Nat.le_of_ble_eq_true rfl) ?_
  intro p e s m below meth c A args H locs ls hx hb hr hml hown hT hlk hP hK hD hA hS hl hout hX hZ
  have hl : lv_has ls 2 [(0, .ref (ad 70)), (1, .int (nI n))] := hl
  refine lv_aload_n hx hb dX5_bestAnew_0 rfl (lv_at hl 0 rfl) ?_
  refine lv_iload_n hx hb dX5_bestAnew_1 rfl (lv_at hl 1 rfl) ?_
  exact q_callXW (As := [.int (nI n)]) hx hb hml hown hT hK hP hD hS hA hout hlk hX hZ (c_X5_needFewMentionsx2 l htr D cA ad g z n hn9 hb9 (show (z 0) ≤ 16 by omega)) k_X5_needFewMentions kl_X5_195 (q0 := 0) rfl rfl rfl hl rfl rfl (Nat.le_of_ble_eq_true rfl) ⟨⟨rfl, rfl⟩, Nat.le_of_ble_eq_true rfl, Nat.le_of_ble_eq_true rfl⟩ ⟨Nat.le_of_ble_eq_true rfl, Nat.le_of_ble_eq_true rfl⟩ dX5_bestAnew_2
abbrev rm_X5_rival : Room := { frames := 1, cells := 0, slots := 0, locals := 22 }
set_option maxRecDepth 100000 in
set_option maxHeartbeats 4000000 in
theorem c_X5_rival (l : Launch) (D : va_G) (cA : ClassId) (ad : Nat → Nat) (g : Nat → Nat → Int32) (z : Nat → Nat) (k : Nat) (lb : Int32) (hk : k < (z 0)) (hc : (z 0) ≤ 16) (hlb : ¬ lb < (-1) ∧ lb ≤ nI 15) : q_CI l yX5_rival [Cond.code yX5_rival cX5_rival 4 (some .int)] rm_X5_rival D cA [.ref (ad 70), .int (nI k), .int lb] (rlW cA ad g z) ((g 4) k) (rlW cA ad (gs g 4 (upd (g 4) k lb)) z) := by
  refine q_startI RX5 (by decide +kernel) rfl (Nat.le_of_ble_eq_true rfl) ?_
  intro p e s m below meth c A args H locs ls hx hb hr hml hown hT hlk hP hK hD hA hS hl
  have hl : lv_has ls 4 [(0, .ref (ad 70)), (1, .int (nI k)), (2, .int lb)] := hl
  refine lv_aload_n hx hb dX5_rival_0 rfl (lv_at hl 0 rfl) ?_
  refine lv_iload_n hx hb dX5_rival_1 rfl (lv_at hl 1 rfl) ?_
  refine q_callVW (As := [.int (nI k)]) (w1 := rlW cA ad g z) hx hb hml hown hT hK hP hD hS hA (c_X5_needMention l D cA ad g z (nI k) (q_r_nI (by omega)) (show (z 0) ≤ 16 by omega)) k_X5_needMention kl_X5_131 (q0 := 0) rfl rfl rfl ((rlW_adr _ _ _ _).trans (rlW_adr _ _ _ _).symm) hl rfl rfl (Nat.le_of_ble_eq_true rfl) ⟨⟨rfl, rfl⟩, Nat.le_of_ble_eq_true rfl, Nat.le_of_ble_eq_true rfl⟩ ⟨Nat.zero_le _, Nat.zero_le _⟩ dX5_rival_2 (fun H locs hP hD hS => ?_)
  refine lv_iload_n hx hb dX5_rival_5 rfl (lv_at hl 2 rfl) ?_
  refine lv_iconst (v := (-1)) hx hb dX5_rival_6 (by decide +kernel) ?_
  refine lv_bipush (v := nI 15) hx hb dX5_rival_7 (by decide +kernel) ?_
  refine q_callSV (As := [.int lb, .int (-1), .int (nI 15)]) hx hb hml hown hT hK hP hD hS hA (c_X5_needWithin l D cA lb (-1) (nI 15) hlb.1 hlb.2) k_X5_needWithin kl_X5_83 hl rfl rfl (Nat.le_of_ble_eq_true rfl) ⟨⟨rfl, rfl⟩, Nat.le_of_ble_eq_true rfl, Nat.le_of_ble_eq_true rfl⟩ ⟨Nat.zero_le _, Nat.zero_le _⟩ dX5_rival_9 (fun H locs hP hD hS => ?_)
  refine lv_aload_n hx hb dX5_rival_12 rfl (lv_at hl 0 rfl) ?_
  refine q_get hx hb hT hown hK hP kw_X5 0 rfl rfl 4 (by decide) kf_X5_27 rfl (v := .ref (ad 4)) rfl dX5_rival_13 ?_
  refine lv_iload_n hx hb dX5_rival_16 rfl (lv_at hl 1 rfl) ?_
  refine q_callI (As := [.int (nI k)]) (r := g 4 k) (wc := rowW cA (ad 4) (ad 34) 16 (g 4)) (w1 := rowW cA (ad 4) (ad 34) 16 (g 4)) (ws1 := rlW cA ad g z) hx hb hml hown hT hK hP hD hS hA (c_X3_atN l D cA (ad 4) (ad 34) 16 (g 4) k (by omega) (by omega)) k_X3_at kl_X5_105 (q0 := 0) rfl rfl rfl [9, 10] rfl rfl rfl rfl hl rfl rfl (Nat.le_of_ble_eq_true rfl) ⟨⟨rfl, rfl⟩, Nat.le_of_ble_eq_true rfl, Nat.le_of_ble_eq_true rfl⟩ ⟨Nat.zero_le _, Nat.zero_le _⟩ dX5_rival_17 (fun H locs hP hD hS => ?_)
  refine lv_istore_n (lv' := [(3, .int (g 4 k)), (0, .ref (ad 70)), (1, .int (nI k)), (2, .int lb)]) hx hb dX5_rival_20 rfl hl (by decide) rfl (fun ls hl => ?_)
  refine lv_aload_n hx hb dX5_rival_21 rfl (lv_at hl 1 rfl) ?_
  refine q_get hx hb hT hown hK hP kw_X5 0 rfl rfl 4 (by decide) kf_X5_27 rfl (v := .ref (ad 4)) rfl dX5_rival_22 ?_
  refine lv_iload_n hx hb dX5_rival_25 rfl (lv_at hl 2 rfl) ?_
  refine lv_iload_n hx hb dX5_rival_26 rfl (lv_at hl 3 rfl) ?_
  refine q_callV (As := [.int (nI k), .int lb]) (wc := rowW cA (ad 4) (ad 34) 16 (g 4)) (w1 := rowW cA (ad 4) (ad 34) 16 (upd (g 4) k lb)) (ws1 := rlW cA ad (gs g 4 (upd (g 4) k lb)) z) hx hb hml hown hT hK hP hD hS hA (c_X3_putN l D cA (ad 4) (ad 34) 16 (g 4) k lb (by omega) (by omega)) k_X3_put kl_X5_76 (q0 := 0) rfl rfl rfl [9, 10] rfl rfl rfl rfl hl rfl rfl (Nat.le_of_ble_eq_true rfl) ⟨⟨rfl, rfl⟩, Nat.le_of_ble_eq_true rfl, Nat.le_of_ble_eq_true rfl⟩ ⟨Nat.zero_le _, Nat.zero_le _⟩ dX5_rival_27 (fun H locs hP hD hS => ?_)
  obtain ⟨nF27_4, enF27_4⟩ : ∃ y : Nat → Int32, y = upd (g 4) k lb := ⟨_, rfl⟩
  have hP : va_P D vwCl (rlW cA ad (gs g 4 nF27_4) z) H := by rw [enF27_4]; exact hP
  have hD : va_D A (rlW cA ad (gs g 4 nF27_4) z) := by rw [enF27_4]; exact hD
  refine lv_iload_n hx hb dX5_rival_30 rfl (lv_at hl 0 rfl) ?_
  rw [enF27_4] at hP hD
  exact q_iret hx hb hr hlk (by rfl) hP hS dX5_rival_31
abbrev rm_X5_rivalx : Room := { frames := 7, cells := 1, slots := 6, locals := 103 }
set_option maxRecDepth 100000 in
set_option maxHeartbeats 4000000 in
theorem c_X5_rivalx (l : Launch) (htr : l.stackTraces = false) (D : va_G) (cA : ClassId) (ad : Nat → Nat) (g : Nat → Nat → Int32) (z : Nat → Nat) (w : Int32) (lb : Int32) (hw : ¬ q_r w (z 0)) (hc : (z 0) ≤ 16) : q_CX l yX5_rival [Cond.code yX5_rival cX5_rival 4 (some .int)] rm_X5_rivalx D cA [.ref (ad 70), .int w, .int lb] (rlW cA ad g z) "java/lang/IndexOutOfBoundsException" (rlW cA ad g z) := by
  refine q_startX RX5 (by decide +kernel) rfl (Nat.le_of_ble_eq_true rfl) ?_
  intro p e s m below meth c A args H locs ls hx hb hr hml hown hT hlk hP hK hD hA hS hl hout hX hZ
  have hl : lv_has ls 4 [(0, .ref (ad 70)), (1, .int w), (2, .int lb)] := hl
  refine lv_aload_n hx hb dX5_rival_0 rfl (lv_at hl 0 rfl) ?_
  refine lv_iload_n hx hb dX5_rival_1 rfl (lv_at hl 1 rfl) ?_
  exact q_callXW (As := [.int w]) hx hb hml hown hT hK hP hD hS hA hout hlk hX hZ (c_X5_needMentionx l htr D cA ad g z w hw (show (z 0) ≤ 16 by omega)) k_X5_needMention kl_X5_131 (q0 := 0) rfl rfl rfl hl rfl rfl (Nat.le_of_ble_eq_true rfl) ⟨⟨rfl, rfl⟩, Nat.le_of_ble_eq_true rfl, Nat.le_of_ble_eq_true rfl⟩ ⟨Nat.le_of_ble_eq_true rfl, Nat.le_of_ble_eq_true rfl⟩ dX5_rival_2
abbrev rm_X5_rivalx2 : Room := { frames := 7, cells := 1, slots := 6, locals := 104 }
set_option maxRecDepth 100000 in
set_option maxHeartbeats 4000000 in
theorem c_X5_rivalx2 (l : Launch) (htr : l.stackTraces = false) (D : va_G) (cA : ClassId) (ad : Nat → Nat) (g : Nat → Nat → Int32) (z : Nat → Nat) (w : Int32) (lb : Int32) (hw : q_r w (z 0)) (hc : (z 0) ≤ 16) (hlb : ¬ (¬ lb < (-1) ∧ lb ≤ nI 15)) : q_CX l yX5_rival [Cond.code yX5_rival cX5_rival 4 (some .int)] rm_X5_rivalx2 D cA [.ref (ad 70), .int w, .int lb] (rlW cA ad g z) "java/lang/IllegalArgumentException" (rlW cA ad g z) := by
  refine q_startX RX5 (by decide +kernel) rfl (Nat.le_of_ble_eq_true rfl) ?_
  intro p e s m below meth c A args H locs ls hx hb hr hml hown hT hlk hP hK hD hA hS hl hout hX hZ
  have hl : lv_has ls 4 [(0, .ref (ad 70)), (1, .int w), (2, .int lb)] := hl
  refine lv_aload_n hx hb dX5_rival_0 rfl (lv_at hl 0 rfl) ?_
  refine lv_iload_n hx hb dX5_rival_1 rfl (lv_at hl 1 rfl) ?_
  refine q_callVW (As := [.int w]) (w1 := rlW cA ad g z) hx hb hml hown hT hK hP hD hS hA (c_X5_needMention l D cA ad g z w hw (show (z 0) ≤ 16 by omega)) k_X5_needMention kl_X5_131 (q0 := 0) rfl rfl rfl ((rlW_adr _ _ _ _).trans (rlW_adr _ _ _ _).symm) hl rfl rfl (Nat.le_of_ble_eq_true rfl) ⟨⟨rfl, rfl⟩, Nat.le_of_ble_eq_true rfl, Nat.le_of_ble_eq_true rfl⟩ ⟨Nat.zero_le _, Nat.zero_le _⟩ dX5_rival_2 (fun H locs hP hD hS => ?_)
  refine lv_iload_n hx hb dX5_rival_5 rfl (lv_at hl 2 rfl) ?_
  refine lv_iconst (v := (-1)) hx hb dX5_rival_6 (by decide +kernel) ?_
  refine lv_bipush (v := nI 15) hx hb dX5_rival_7 (by decide +kernel) ?_
  exact q_callXS (As := [.int lb, .int (-1), .int (nI 15)]) hx hb hml hown hT hK hP hD hS hA hout hlk hX hZ (c_X5_needWithinx l htr D cA lb (-1) (nI 15) hlb) k_X5_needWithin kl_X5_83 hl rfl rfl (Nat.le_of_ble_eq_true rfl) ⟨⟨rfl, rfl⟩, Nat.le_of_ble_eq_true rfl, Nat.le_of_ble_eq_true rfl⟩ ⟨Nat.le_of_ble_eq_true rfl, Nat.le_of_ble_eq_true rfl⟩ dX5_rival_9
abbrev rm_X5_differ : Room := { frames := 2, cells := 0, slots := 0, locals := 43 }
set_option maxRecDepth 100000 in
set_option maxHeartbeats 4000000 in
theorem c_X5_differ (l : Launch) (D : va_G) (cA : ClassId) (ad : Nat → Nat) (g : Nat → Nat → Int32) (z : Nat → Nat)  (hc : (z 0) ≤ 16) : q_CI l yX5_differ [Cond.code yX5_differ cX5_differ 5 (some .int)] rm_X5_differ D cA [.ref (ad 70)] (rlW cA ad g z) (nI (dfO g (z 0) (z 0))) (rlW cA ad g z) := by
  refine q_startI RX5 (by decide +kernel) rfl (Nat.le_of_ble_eq_true rfl) ?_
  intro p e s m below meth c A args H locs ls hx hb hr hml hown hT hlk hP hK hD hA hS hl
  have hl : lv_has ls 5 [(0, .ref (ad 70))] := hl
  have zqL4 : ∀ (fu : Nat), ∀ (i : Nat), (z 0 + 1 ≤ i + fu) → (i ≤ (z 0)) → ∀ (H : Heap) (locs : List Loc) (ls : Array Slot), va_P D vwCl (rlW cA ad g z) H → va_D A (rlW cA ad g z) → va_S A s.heap H locs → lv_has ls 5 [(0, .ref (ad 70)), (1, .int (nI (dfO g (z 0) i))), (2, .int (nI i))] → W p l e rm_X5_differ s m args below meth c H locs 0 0 (q_GI D (nI (dfO g (z 0) (z 0))) (rlW cA ad g z) A below args s) (F0 m 4 ls []) := by
    intro fu
    induction fu with
    | zero =>
      intro i hfu hi9 H locs ls hP hD hS hl
      exfalso; omega
    | succ fu ih4 =>
      intro i hfu hi9 H locs ls hP hD hS hl
      have zqL16 : ∀ (fu : Nat), ∀ (j : Nat), (z 0 + 1 ≤ j + fu) → (j ≤ (z 0)) → (i < j) → (i < (z 0)) → ∀ (H : Heap) (locs : List Loc) (ls : Array Slot), va_P D vwCl (rlW cA ad g z) H → va_D A (rlW cA ad g z) → va_S A s.heap H locs → lv_has ls 5 [(0, .ref (ad 70)), (1, .int (nI (dfO g (z 0) i + dfJ g i j))), (2, .int (nI i)), (3, .int (nI j))] → W p l e rm_X5_differ s m args below meth c H locs 0 0 (q_GI D (nI (dfO g (z 0) (z 0))) (rlW cA ad g z) A below args s) (F0 m 16 ls []) := by
        intro fu
        induction fu with
        | zero =>
          intro j hfu hj9 hij hi8 H locs ls hP hD hS hl
          exfalso; omega
        | succ fu ih16 =>
          intro j hfu hj9 hij hi8 H locs ls hP hD hS hl
          have zqJ64 : (j < (z 0)) → ∀ (H : Heap) (locs : List Loc) (ls : Array Slot), va_P D vwCl (rlW cA ad g z) H → va_D A (rlW cA ad g z) → va_S A s.heap H locs → lv_has ls 5 [(0, .ref (ad 70)), (1, .int (nI (dfO g (z 0) i + dfJ g i (j + 1)))), (2, .int (nI i)), (3, .int (nI j))] → W p l e rm_X5_differ s m args below meth c H locs 0 0 (q_GI D (nI (dfO g (z 0) (z 0))) (rlW cA ad g z) A below args s) (F0 m 64 ls []) := by
            intro  hj8 H locs ls hP hD hS hl
            refine lv_iinc (v := nI (j + 1)) (lv' := [(3, .int (nI (j + 1))), (0, .ref (ad 70)), (1, .int (nI (dfO g (z 0) i + dfJ g i (j + 1)))), (2, .int (nI i))]) hx hb dX5_differ_64 hl (k := 3) rfl (q_inc1 _) (by decide) rfl (fun ls hl => ?_)
            refine lv_goto (tgt := 16) hx hb dX5_differ_67 (by decide) ?_
            exact ih16 (j + 1) (by omega) (by omega) (by omega) (by omega) _ _ _ hP hD hS (lv_sub hl [1, 2, 3, 0] rfl)
          have zqJ48 : (j < (z 0)) → ∀ (H : Heap) (locs : List Loc) (ls : Array Slot), va_P D vwCl (rlW cA ad g z) H → va_D A (rlW cA ad g z) → va_S A s.heap H locs → lv_has ls 5 [(0, .ref (ad 70)), (1, .int (nI (dfO g (z 0) i + dfJ g i j))), (2, .int (nI i)), (3, .int (nI j))] → W p l e rm_X5_differ s m args below meth c H locs 0 0 (q_GI D (nI (dfO g (z 0) (z 0))) (rlW cA ad g z) A below args s) (F0 m 48 ls [.int (q_b (decide (g 22 i = g 22 j)))]) := by
            intro  hj8 H locs ls hP hD hS hl
            refine lv_istore (lv' := [(4, .int (q_b (decide (g 22 i = g 22 j)))), (0, .ref (ad 70)), (1, .int (nI (dfO g (z 0) i + dfJ g i j))), (2, .int (nI i)), (3, .int (nI j))]) hx hb dX5_differ_48 hl (by decide) rfl (fun ls hl => ?_)
            refine lv_iload hx hb dX5_differ_50 (lv_at hl 0 rfl) ?_
            refine lv_aload_n hx hb dX5_differ_52 rfl (lv_at hl 1 rfl) ?_
            refine lv_iload_n hx hb dX5_differ_53 rfl (lv_at hl 3 rfl) ?_
            refine lv_iload_n hx hb dX5_differ_54 rfl (lv_at hl 4 rfl) ?_
            refine q_callIW (As := [.int (nI i), .int (nI j)]) (r := q_b (kn ((g 4) i) ((g 4) j))) (w1 := rlW cA ad g z) hx hb hml hown hT hK hP hD hS hA (c_X5_areTogetherForRival l D cA ad g z i j (show i < 16 by omega) (show j < 16 by omega)) k_X5_areTogetherForRival kl_X5_208 (q0 := 0) rfl rfl rfl ((rlW_adr _ _ _ _).trans (rlW_adr _ _ _ _).symm) hl rfl rfl (Nat.le_of_ble_eq_true rfl) ⟨⟨rfl, rfl⟩, Nat.le_of_ble_eq_true rfl, Nat.le_of_ble_eq_true rfl⟩ ⟨Nat.zero_le _, Nat.zero_le _⟩ dX5_differ_55 (fun H locs hP hD hS => ?_)
            refine lv_icmp_eq (tgt := 64) hx hb dX5_differ_58 (by decide) (fun c_58 => ?_) (fun c_58 => ?_)
            · have d_58 := q_b_inj c_58
              have e9_0 : (nI (dfO g (z 0) i + dfJ g i j)) = (nI (dfO g (z 0) i + dfJ g i (j + 1))) := by first | with_reducible rfl | (first | rw [dfJ_f d_58] | rw [← dfJ_t hij d_58, Nat.add_assoc])
              have hl9 : lv_has ls 5 [(0, .ref (ad 70)), (1, .int (nI (dfO g (z 0) i + dfJ g i (j + 1)))), (2, .int (nI i)), (3, .int (nI j))] := lv_cast (l := [(0, .ref (ad 70)), (1, .int (nI (dfO g (z 0) i + dfJ g i j))), (2, .int (nI i)), (3, .int (nI j))]) (lv_sub hl [1, 2, 3, 4] rfl) (congrArg (fun v9 : Int32 => ([(0, .ref (ad 70)), (1, .int v9), (2, .int (nI i)), (3, .int (nI j))] : List (Nat × Value))) e9_0)
              exact zqJ64  (by omega) _ _ _ hP hD hS hl9
            · have d_58 := q_b_ne c_58
              refine lv_iinc (v := nI ((dfO g (z 0) i + dfJ g i j) + 1)) (lv' := [(1, .int (nI ((dfO g (z 0) i + dfJ g i j) + 1))), (4, .int (q_b (decide (g 22 i = g 22 j)))), (0, .ref (ad 70)), (2, .int (nI i)), (3, .int (nI j))]) hx hb dX5_differ_61 hl (k := 2) rfl (q_inc1 _) (by decide) rfl (fun ls hl => ?_)
              have e9_0 : (nI ((dfO g (z 0) i + dfJ g i j) + 1)) = (nI (dfO g (z 0) i + dfJ g i (j + 1))) := by first | with_reducible rfl | (first | rw [dfJ_f d_58] | rw [← dfJ_t hij d_58, Nat.add_assoc])
              have hl9 : lv_has ls 5 [(0, .ref (ad 70)), (1, .int (nI (dfO g (z 0) i + dfJ g i (j + 1)))), (2, .int (nI i)), (3, .int (nI j))] := lv_cast (l := [(0, .ref (ad 70)), (1, .int (nI ((dfO g (z 0) i + dfJ g i j) + 1))), (2, .int (nI i)), (3, .int (nI j))]) (lv_sub hl [2, 0, 3, 4] rfl) (congrArg (fun v9 : Int32 => ([(0, .ref (ad 70)), (1, .int v9), (2, .int (nI i)), (3, .int (nI j))] : List (Nat × Value))) e9_0)
              exact zqJ64  (by omega) _ _ _ hP hD hS hl9
          refine lv_iload_n hx hb dX5_differ_16 rfl (lv_at hl 3 rfl) ?_
          refine lv_aload_n hx hb dX5_differ_17 rfl (lv_at hl 0 rfl) ?_
          refine q_get hx hb hT hown hK hP kw_X5 0 rfl rfl 15 (by decide) kf_X5_87 rfl (v := .int (nI (z 0))) rfl dX5_differ_18 ?_
          refine lv_icmp_ge (tgt := 70) hx hb dX5_differ_21 (by decide) (fun c_21 => ?_) (fun c_21 => ?_)
          · have c_21 := nI_le1 (a := z 0) (b := j) (by omega) (by omega) c_21
            refine lv_iinc (v := nI (i + 1)) (lv' := [(2, .int (nI (i + 1))), (0, .ref (ad 70)), (1, .int (nI (dfO g (z 0) i + dfJ g i j))), (3, .int (nI j))]) hx hb dX5_differ_70 hl (k := 2) rfl (q_inc1 _) (by decide) rfl (fun ls hl => ?_)
            refine lv_goto (tgt := 4) hx hb dX5_differ_73 (by decide) ?_
            have e9_0 : (nI (dfO g (z 0) i + dfJ g i j)) = (nI (dfO g (z 0) (i + 1))) := by first | with_reducible rfl | (rw [show j = z 0 by omega]; rfl)
            have hl9 : lv_has ls 5 [(0, .ref (ad 70)), (1, .int (nI (dfO g (z 0) (i + 1)))), (2, .int (nI (i + 1)))] := lv_cast (l := [(0, .ref (ad 70)), (1, .int (nI (dfO g (z 0) i + dfJ g i j))), (2, .int (nI (i + 1)))]) (lv_sub hl [1, 2, 0] rfl) (congrArg (fun v9 : Int32 => ([(0, .ref (ad 70)), (1, .int v9), (2, .int (nI (i + 1)))] : List (Nat × Value))) e9_0)
            exact ih4 (i + 1) (by omega) (by omega) _ _ _ hP hD hS hl9
          · have c_21 := nI_le0 (a := z 0) (b := j) (by omega) (by omega) c_21
            refine lv_aload_n hx hb dX5_differ_24 rfl (lv_at hl 0 rfl) ?_
            refine q_get hx hb hT hown hK hP kw_X5 0 rfl rfl 11 (by decide) kf_X5_59 rfl (v := .ref (ad 72)) rfl dX5_differ_25 ?_
            refine lv_iload_n hx hb dX5_differ_28 rfl (lv_at hl 2 rfl) ?_
            refine q_callIS (As := [.int (nI i)]) (r := (g 22) i) (wc := psW cA ad g z) (w1 := psW cA ad g z) (ws1 := rlW cA ad g z) hx hb hml hown hT hK hP hD hS hA (c_X2_ownerOf l D cA ad g z i (show i < 16 by omega)) k_X2_ownerOf kl_X5_164 (q0 := 0) rfl rfl rfl (rl_a cA ad g z ++ yrW cA ad g z) (gpW cA ad g z) (List.append_assoc _ _ _).symm (rl_p rfl rfl rfl) ((psW_adr _ _ _ _).trans (psW_adr _ _ _ _).symm) hl rfl rfl (Nat.le_of_ble_eq_true rfl) ⟨⟨rfl, rfl⟩, Nat.le_of_ble_eq_true rfl, Nat.le_of_ble_eq_true rfl⟩ ⟨Nat.zero_le _, Nat.zero_le _⟩ dX5_differ_29 (fun H locs hP hD hS => ?_)
            refine lv_aload_n hx hb dX5_differ_32 rfl (lv_at hl 0 rfl) ?_
            refine q_get hx hb hT hown hK hP kw_X5 0 rfl rfl 11 (by decide) kf_X5_59 rfl (v := .ref (ad 72)) rfl dX5_differ_33 ?_
            refine lv_iload_n hx hb dX5_differ_36 rfl (lv_at hl 3 rfl) ?_
            refine q_callIS (As := [.int (nI j)]) (r := (g 22) j) (wc := psW cA ad g z) (w1 := psW cA ad g z) (ws1 := rlW cA ad g z) hx hb hml hown hT hK hP hD hS hA (c_X2_ownerOf l D cA ad g z j (show j < 16 by omega)) k_X2_ownerOf kl_X5_164 (q0 := 0) rfl rfl rfl (rl_a cA ad g z ++ yrW cA ad g z) (gpW cA ad g z) (List.append_assoc _ _ _).symm (rl_p rfl rfl rfl) ((psW_adr _ _ _ _).trans (psW_adr _ _ _ _).symm) hl rfl rfl (Nat.le_of_ble_eq_true rfl) ⟨⟨rfl, rfl⟩, Nat.le_of_ble_eq_true rfl, Nat.le_of_ble_eq_true rfl⟩ ⟨Nat.zero_le _, Nat.zero_le _⟩ dX5_differ_37 (fun H locs hP hD hS => ?_)
            refine lv_icmp_ne (tgt := 47) hx hb dX5_differ_40 (by decide) (fun c_40 => ?_) (fun c_40 => ?_)
            · refine lv_iconst (v := nI 0) hx hb dX5_differ_47 (by decide +kernel) ?_
              refine q_top (y := q_b (decide (g 22 i = g 22 j))) (by first | exact q_bt (decide_eq_true c_40) | exact q_bf (decide_eq_false c_40)) ?_
              exact zqJ48  (by omega) _ _ _ hP hD hS (lv_sub hl [0, 1, 2, 3] rfl)
            · refine lv_iconst (v := nI 1) hx hb dX5_differ_43 (by decide +kernel) ?_
              refine lv_goto (tgt := 48) hx hb dX5_differ_44 (by decide) ?_
              refine q_top (y := q_b (decide (g 22 i = g 22 j))) (by first | exact q_bt (decide_eq_true c_40) | exact q_bf (decide_eq_false c_40)) ?_
              exact zqJ48  (by omega) _ _ _ hP hD hS (lv_sub hl [0, 1, 2, 3] rfl)
      refine lv_iload_n hx hb dX5_differ_4 rfl (lv_at hl 2 rfl) ?_
      refine lv_aload_n hx hb dX5_differ_5 rfl (lv_at hl 0 rfl) ?_
      refine q_get hx hb hT hown hK hP kw_X5 0 rfl rfl 15 (by decide) kf_X5_87 rfl (v := .int (nI (z 0))) rfl dX5_differ_6 ?_
      refine lv_icmp_ge (tgt := 76) hx hb dX5_differ_9 (by decide) (fun c_9 => ?_) (fun c_9 => ?_)
      · have c_9 := nI_le1 (a := z 0) (b := i) (by omega) (by omega) c_9
        refine lv_iload_n hx hb dX5_differ_76 rfl (lv_at hl 1 rfl) ?_
        exact q_iret hx hb hr hlk (by rw [show i = z 0 by omega]) hP hS dX5_differ_77
      · have c_9 := nI_le0 (a := z 0) (b := i) (by omega) (by omega) c_9
        refine lv_iload_n hx hb dX5_differ_12 rfl (lv_at hl 2 rfl) ?_
        refine lv_iconst (v := nI 1) hx hb dX5_differ_13 (by decide +kernel) ?_
        refine lv_iadd hx hb dX5_differ_14 ?_
        refine q_top (y := nI (i + 1)) (nI_add _ _) ?_
        refine lv_istore_n (lv' := [(3, .int (nI (i + 1))), (0, .ref (ad 70)), (1, .int (nI (dfO g (z 0) i))), (2, .int (nI i))]) hx hb dX5_differ_15 rfl hl (by decide) rfl (fun ls hl => ?_)
        have e9_0 : (nI (dfO g (z 0) i)) = (nI (dfO g (z 0) i + dfJ g i (i + 1))) := by first | with_reducible rfl | (rw [dfJ_0 _ (Nat.le_refl _)]; rfl)
        have hl9 : lv_has ls 5 [(0, .ref (ad 70)), (1, .int (nI (dfO g (z 0) i + dfJ g i (i + 1)))), (2, .int (nI i)), (3, .int (nI (i + 1)))] := lv_cast (l := [(0, .ref (ad 70)), (1, .int (nI (dfO g (z 0) i))), (2, .int (nI i)), (3, .int (nI (i + 1)))]) (lv_sub hl [1, 2, 3, 0] rfl) (congrArg (fun v9 : Int32 => ([(0, .ref (ad 70)), (1, .int v9), (2, .int (nI i)), (3, .int (nI (i + 1)))] : List (Nat × Value))) e9_0)
        exact zqL16 (z 0 + 1) (i + 1) (by omega) (by omega) (by omega) (by omega) _ _ _ hP hD hS hl9
  refine lv_iconst (v := nI 0) hx hb dX5_differ_0 (by decide +kernel) ?_
  refine lv_istore_n (lv' := [(1, .int (nI 0)), (0, .ref (ad 70))]) hx hb dX5_differ_1 rfl hl (by decide) rfl (fun ls hl => ?_)
  refine lv_iconst (v := nI 0) hx hb dX5_differ_2 (by decide +kernel) ?_
  refine lv_istore_n (lv' := [(2, .int (nI 0)), (1, .int (nI 0)), (0, .ref (ad 70))]) hx hb dX5_differ_3 rfl hl (by decide) rfl (fun ls hl => ?_)
  have e9_0 : (nI 0) = (nI (dfO g (z 0) 0)) := by first | with_reducible rfl | (rfl)
  have hl9 : lv_has ls 5 [(0, .ref (ad 70)), (1, .int (nI (dfO g (z 0) 0))), (2, .int (nI 0))] := lv_cast (l := [(0, .ref (ad 70)), (1, .int (nI 0)), (2, .int (nI 0))]) (lv_sub hl [2, 1, 0] rfl) (congrArg (fun v9 : Int32 => ([(0, .ref (ad 70)), (1, .int v9), (2, .int (nI 0))] : List (Nat × Value))) e9_0)
  exact zqL4 (z 0 + 1) 0 (by omega) (by omega) _ _ _ hP hD hS hl9
