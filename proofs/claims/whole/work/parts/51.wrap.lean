set_option maxRecDepth 100000 in
set_option maxHeartbeats 4000000 in
theorem wo_mention (l : Launch) (D : va_G) (cA cL : ClassId) (ad : Nat → Nat) (g g2 : Nat → Nat → Int32) (z z2 : Nat → Nat) (o : Nat) (f : Nat → Int64) (p0 : Int32) (p1 : Int32) (p2 : Int32) (p3 : Int32) (rm : Room) (r : Int32) (hrm : rm.cells = 0 ∧ rm.slots = 0 ∧ rm.frames ≤ 8 ∧ rm.locals ≤ 139) (hM : q_CI l yX5_mention [Cond.code yX5_mention cX5_mention 6 (some .int)] rm D cA (.ref (ad 70) :: [.int p0, .int p1, .int p2, .int p3]) (rlW cA ad g z) r (rlW cA ad g2 z2)) : q_CL l yL_mention [Cond.codeWith yL_mention cL_mention 7 (some .int) [(0, 14, 17, 13), (0, 14, 21, 15), (0, 14, 25, 17)]] rm_L D cA cL [.ref (ad 70), .int p0, .int p1, .int p2, .int p3, .ref o] ((o, .inl (cL, 1, .inr (.inl f))) :: rlW cA ad g z) (nI 0) ((o, .inl (cL, 1, .inr (.inl (vp_updL f 0 r.toInt64)))) :: rlW cA ad g2 z2) := by
  refine q_startL RL (by decide +kernel) rfl (Nat.le_of_ble_eq_true rfl) ?_
  intro p e s m below meth c A args H locs ls hx hb hr hml hown hT hlk hP hK hD hA hS hl htb hX hN hZ
  have hl : lv_has ls 7 [(0, .ref (ad 70)), (1, .int p0), (2, .int p1), (3, .int p2), (4, .int p3), (5, .ref o)] := hl
  refine lv_aload hx hb dL_mention_0 (lv_at hl 5 rfl) ?_
  refine lv_iconst (v := nI 0) hx hb dL_mention_2 (by decide +kernel) ?_
  refine lv_aload_n hx hb dL_mention_3 rfl (lv_at hl 0 rfl) ?_
  refine lv_iload_n hx hb dL_mention_4 rfl (lv_at hl 1 rfl) ?_
  refine lv_iload_n hx hb dL_mention_5 rfl (lv_at hl 2 rfl) ?_
  refine lv_iload_n hx hb dL_mention_6 rfl (lv_at hl 3 rfl) ?_
  refine lv_iload hx hb dL_mention_7 (lv_at hl 4 rfl) ?_
  refine q_callIS (As := [.int p0, .int p1, .int p2, .int p3]) (r := r) (w1 := rlW cA ad g2 z2) hx hb hml hown hT (q_kint hK) hP hD hS hA  hM k_X5_mention kl_L_7 (q0 := 0) rfl rfl rfl [(o, .inl (cL, 1, .inr (.inl f)))] [] wp_1 wp_1.symm ((rlW_adr _ _ _ _).trans (rlW_adr _ _ _ _).symm) hl rfl rfl (Nat.le_of_ble_eq_true rfl) ⟨⟨hrm.1, hrm.2.1⟩, (by show rm.frames + 1 ≤ 9; omega), (by show 8 + (6 + 11) + rm.locals ≤ 180; omega)⟩ ⟨Nat.zero_le _, Nat.zero_le _⟩ dL_mention_9 (fun H locs hP hD hS => ?_)
  refine lv_i2l (v := r.toInt64) hx hb dL_mention_12 rfl ?_
  refine q_last (x := r.toInt64) (ws1 := (o, .inl (cL, 1, .inr (.inl (vp_updL f 0 r.toInt64)))) :: rlW cA ad g2 z2) hx hb hK hP hD hS 0 rfl rfl rfl dL_mention_13 (fun H locs hP hD hS => ?_)
  refine lv_goto (tgt := 29) hx hb dL_mention_14 (by decide) ?_
  refine lv_iconst (v := nI 0) hx hb dL_mention_29 (by decide +kernel) ?_
  exact q_lret hx hb hr hlk rfl hP hS (by decide) (by decide) dL_mention_30
set_option maxRecDepth 100000 in
set_option maxHeartbeats 4000000 in
theorem wx_mention_iob (l : Launch) (D : va_G) (cA cL : ClassId) (ad : Nat → Nat) (g g2 : Nat → Nat → Int32) (z z2 : Nat → Nat) (o : Nat) (f : Nat → Int64) (p0 : Int32) (p1 : Int32) (p2 : Int32) (p3 : Int32) (rm : Room) (hrm : rm.cells = 1 ∧ rm.slots = 6 ∧ rm.frames ≤ 8 ∧ rm.locals ≤ 139) (hM : q_CX l yX5_mention [Cond.code yX5_mention cX5_mention 6 (some .int)] rm D cA (.ref (ad 70) :: [.int p0, .int p1, .int p2, .int p3]) (rlW cA ad g z) "java/lang/IndexOutOfBoundsException" (rlW cA ad g2 z2)) : q_CL l yL_mention [Cond.codeWith yL_mention cL_mention 7 (some .int) [(0, 14, 17, 13), (0, 14, 21, 15), (0, 14, 25, 17)]] rm_L D cA cL [.ref (ad 70), .int p0, .int p1, .int p2, .int p3, .ref o] ((o, .inl (cL, 1, .inr (.inl f))) :: rlW cA ad g z) (nI 1) ((o, .inl (cL, 1, .inr (.inl f))) :: rlW cA ad g2 z2) := by
  refine q_startL RL (by decide +kernel) rfl (Nat.le_of_ble_eq_true rfl) ?_
  intro p e s m below meth c A args H locs ls hx hb hr hml hown hT hlk hP hK hD hA hS hl htb hX hN hZ
  have hl : lv_has ls 7 [(0, .ref (ad 70)), (1, .int p0), (2, .int p1), (3, .int p2), (4, .int p3), (5, .ref o)] := hl
  refine lv_aload hx hb dL_mention_0 (lv_at hl 5 rfl) ?_
  refine lv_iconst (v := nI 0) hx hb dL_mention_2 (by decide +kernel) ?_
  refine lv_aload_n hx hb dL_mention_3 rfl (lv_at hl 0 rfl) ?_
  refine lv_iload_n hx hb dL_mention_4 rfl (lv_at hl 1 rfl) ?_
  refine lv_iload_n hx hb dL_mention_5 rfl (lv_at hl 2 rfl) ?_
  refine lv_iload_n hx hb dL_mention_6 rfl (lv_at hl 3 rfl) ?_
  refine lv_iload hx hb dL_mention_7 (lv_at hl 4 rfl) ?_
  refine q_callXC (As := [.int p0, .int p1, .int p2, .int p3]) (w1 := rlW cA ad g2 z2) (name := "java/lang/IndexOutOfBoundsException") hx hb hml hown hT (q_kint hK) hP hD hS hA  hX hZ hM k_X5_mention kl_L_7 (q0 := 0) rfl rfl rfl [(o, .inl (cL, 1, .inr (.inl f)))] [] wp_1 wp_1.symm ((rlW_adr _ _ _ _).trans (rlW_adr _ _ _ _).symm) hl rfl rfl (Nat.le_of_ble_eq_true rfl) ⟨⟨hrm.1, hrm.2.1⟩, (by show rm.frames + 1 ≤ 9; omega), (by show 8 + (6 + 11) + rm.locals ≤ 180; omega)⟩ ⟨Nat.le_of_ble_eq_true rfl, Nat.le_of_ble_eq_true rfl⟩ dL_mention_9 [] ⟨0, 14, 17, 13⟩ [⟨0, 14, 21, 15⟩, ⟨0, 14, 25, 17⟩] htb (fun z hz => absurd hz List.not_mem_nil) (by decide) (by decide) kx_L_13 q_cast_iob (fun q9 H locs hP hD hS => ?_)
  refine lv_astore (lv' := [(6, .ref q9), (0, .ref (ad 70)), (1, .int p0), (2, .int p1), (3, .int p2), (4, .int p3), (5, .ref o)]) hx hb dL_mention_17 hl (by decide) rfl (fun ls hl => ?_)
  refine lv_iconst (v := nI 1) hx hb dL_mention_19 (by decide +kernel) ?_
  exact q_lret hx hb hr hlk rfl hP hS (by decide) (by decide) dL_mention_20
set_option maxRecDepth 100000 in
set_option maxHeartbeats 4000000 in
theorem wx_mention_iae (l : Launch) (D : va_G) (cA cL : ClassId) (ad : Nat → Nat) (g g2 : Nat → Nat → Int32) (z z2 : Nat → Nat) (o : Nat) (f : Nat → Int64) (p0 : Int32) (p1 : Int32) (p2 : Int32) (p3 : Int32) (rm : Room) (hrm : rm.cells = 1 ∧ rm.slots = 6 ∧ rm.frames ≤ 8 ∧ rm.locals ≤ 139) (hM : q_CX l yX5_mention [Cond.code yX5_mention cX5_mention 6 (some .int)] rm D cA (.ref (ad 70) :: [.int p0, .int p1, .int p2, .int p3]) (rlW cA ad g z) "java/lang/IllegalArgumentException" (rlW cA ad g2 z2)) : q_CL l yL_mention [Cond.codeWith yL_mention cL_mention 7 (some .int) [(0, 14, 17, 13), (0, 14, 21, 15), (0, 14, 25, 17)]] rm_L D cA cL [.ref (ad 70), .int p0, .int p1, .int p2, .int p3, .ref o] ((o, .inl (cL, 1, .inr (.inl f))) :: rlW cA ad g z) (nI 2) ((o, .inl (cL, 1, .inr (.inl f))) :: rlW cA ad g2 z2) := by
  refine q_startL RL (by decide +kernel) rfl (Nat.le_of_ble_eq_true rfl) ?_
  intro p e s m below meth c A args H locs ls hx hb hr hml hown hT hlk hP hK hD hA hS hl htb hX hN hZ
  have hl : lv_has ls 7 [(0, .ref (ad 70)), (1, .int p0), (2, .int p1), (3, .int p2), (4, .int p3), (5, .ref o)] := hl
  refine lv_aload hx hb dL_mention_0 (lv_at hl 5 rfl) ?_
  refine lv_iconst (v := nI 0) hx hb dL_mention_2 (by decide +kernel) ?_
  refine lv_aload_n hx hb dL_mention_3 rfl (lv_at hl 0 rfl) ?_
  refine lv_iload_n hx hb dL_mention_4 rfl (lv_at hl 1 rfl) ?_
  refine lv_iload_n hx hb dL_mention_5 rfl (lv_at hl 2 rfl) ?_
  refine lv_iload_n hx hb dL_mention_6 rfl (lv_at hl 3 rfl) ?_
  refine lv_iload hx hb dL_mention_7 (lv_at hl 4 rfl) ?_
  refine q_callXC (As := [.int p0, .int p1, .int p2, .int p3]) (w1 := rlW cA ad g2 z2) (name := "java/lang/IllegalArgumentException") hx hb hml hown hT (q_kint hK) hP hD hS hA  hX hZ hM k_X5_mention kl_L_7 (q0 := 0) rfl rfl rfl [(o, .inl (cL, 1, .inr (.inl f)))] [] wp_1 wp_1.symm ((rlW_adr _ _ _ _).trans (rlW_adr _ _ _ _).symm) hl rfl rfl (Nat.le_of_ble_eq_true rfl) ⟨⟨hrm.1, hrm.2.1⟩, (by show rm.frames + 1 ≤ 9; omega), (by show 8 + (6 + 11) + rm.locals ≤ 180; omega)⟩ ⟨Nat.le_of_ble_eq_true rfl, Nat.le_of_ble_eq_true rfl⟩ dL_mention_9 [⟨0, 14, 17, 13⟩] ⟨0, 14, 21, 15⟩ [⟨0, 14, 25, 17⟩] htb (fun z hz => Or.inr (by rw [List.mem_singleton.mp hz]; exact ⟨by decide, _, hT.use kx_L_13 args, hN.1⟩)) (by decide) (by decide) kx_L_15 q_cast_iae (fun q9 H locs hP hD hS => ?_)
  refine lv_astore (lv' := [(6, .ref q9), (0, .ref (ad 70)), (1, .int p0), (2, .int p1), (3, .int p2), (4, .int p3), (5, .ref o)]) hx hb dL_mention_21 hl (by decide) rfl (fun ls hl => ?_)
  refine lv_iconst (v := nI 2) hx hb dL_mention_23 (by decide +kernel) ?_
  exact q_lret hx hb hr hlk rfl hP hS (by decide) (by decide) dL_mention_24
set_option maxRecDepth 100000 in
set_option maxHeartbeats 4000000 in
theorem wx_mention_ise (l : Launch) (D : va_G) (cA cL : ClassId) (ad : Nat → Nat) (g g2 : Nat → Nat → Int32) (z z2 : Nat → Nat) (o : Nat) (f : Nat → Int64) (p0 : Int32) (p1 : Int32) (p2 : Int32) (p3 : Int32) (rm : Room) (hrm : rm.cells = 1 ∧ rm.slots = 6 ∧ rm.frames ≤ 8 ∧ rm.locals ≤ 139) (hM : q_CX l yX5_mention [Cond.code yX5_mention cX5_mention 6 (some .int)] rm D cA (.ref (ad 70) :: [.int p0, .int p1, .int p2, .int p3]) (rlW cA ad g z) "java/lang/IllegalStateException" (rlW cA ad g2 z2)) : q_CL l yL_mention [Cond.codeWith yL_mention cL_mention 7 (some .int) [(0, 14, 17, 13), (0, 14, 21, 15), (0, 14, 25, 17)]] rm_L D cA cL [.ref (ad 70), .int p0, .int p1, .int p2, .int p3, .ref o] ((o, .inl (cL, 1, .inr (.inl f))) :: rlW cA ad g z) (nI 3) ((o, .inl (cL, 1, .inr (.inl f))) :: rlW cA ad g2 z2) := by
  refine q_startL RL (by decide +kernel) rfl (Nat.le_of_ble_eq_true rfl) ?_
  intro p e s m below meth c A args H locs ls hx hb hr hml hown hT hlk hP hK hD hA hS hl htb hX hN hZ
  have hl : lv_has ls 7 [(0, .ref (ad 70)), (1, .int p0), (2, .int p1), (3, .int p2), (4, .int p3), (5, .ref o)] := hl
  refine lv_aload hx hb dL_mention_0 (lv_at hl 5 rfl) ?_
  refine lv_iconst (v := nI 0) hx hb dL_mention_2 (by decide +kernel) ?_
  refine lv_aload_n hx hb dL_mention_3 rfl (lv_at hl 0 rfl) ?_
  refine lv_iload_n hx hb dL_mention_4 rfl (lv_at hl 1 rfl) ?_
  refine lv_iload_n hx hb dL_mention_5 rfl (lv_at hl 2 rfl) ?_
  refine lv_iload_n hx hb dL_mention_6 rfl (lv_at hl 3 rfl) ?_
  refine lv_iload hx hb dL_mention_7 (lv_at hl 4 rfl) ?_
  refine q_callXC (As := [.int p0, .int p1, .int p2, .int p3]) (w1 := rlW cA ad g2 z2) (name := "java/lang/IllegalStateException") hx hb hml hown hT (q_kint hK) hP hD hS hA  hX hZ hM k_X5_mention kl_L_7 (q0 := 0) rfl rfl rfl [(o, .inl (cL, 1, .inr (.inl f)))] [] wp_1 wp_1.symm ((rlW_adr _ _ _ _).trans (rlW_adr _ _ _ _).symm) hl rfl rfl (Nat.le_of_ble_eq_true rfl) ⟨⟨hrm.1, hrm.2.1⟩, (by show rm.frames + 1 ≤ 9; omega), (by show 8 + (6 + 11) + rm.locals ≤ 180; omega)⟩ ⟨Nat.le_of_ble_eq_true rfl, Nat.le_of_ble_eq_true rfl⟩ dL_mention_9 [⟨0, 14, 17, 13⟩, ⟨0, 14, 21, 15⟩] ⟨0, 14, 25, 17⟩ [] htb (fun z hz => Or.inr (by rcases List.mem_cons.mp hz with h9 | h9; (rw [h9]; exact ⟨by decide, _, hT.use kx_L_13 args, hN.2.1⟩); (rw [List.mem_singleton.mp h9]; exact ⟨by decide, _, hT.use kx_L_15 args, hN.2.2⟩))) (by decide) (by decide) kx_L_17 q_cast_ise (fun q9 H locs hP hD hS => ?_)
  refine lv_astore (lv' := [(6, .ref q9), (0, .ref (ad 70)), (1, .int p0), (2, .int p1), (3, .int p2), (4, .int p3), (5, .ref o)]) hx hb dL_mention_25 hl (by decide) rfl (fun ls hl => ?_)
  refine lv_iconst (v := nI 3) hx hb dL_mention_27 (by decide +kernel) ?_
  exact q_lret hx hb hr hlk rfl hP hS (by decide) (by decide) dL_mention_28
set_option maxRecDepth 100000 in
set_option maxHeartbeats 4000000 in
theorem wo_rank (l : Launch) (D : va_G) (cA cL : ClassId) (ad : Nat → Nat) (g g2 : Nat → Nat → Int32) (z z2 : Nat → Nat) (o : Nat) (f : Nat → Int64) (p0 : Int32) (p1 : Int32) (rm : Room) (r : Int32) (hrm : rm.cells = 0 ∧ rm.slots = 0 ∧ rm.frames ≤ 8 ∧ rm.locals ≤ 139) (hM : q_CI l yX5_rank [Cond.code yX5_rank cX5_rank 4 (some .int)] rm D cA (.ref (ad 70) :: [.int p0, .int p1]) (rlW cA ad g z) r (rlW cA ad g2 z2)) : q_CL l yL_rank [Cond.codeWith yL_rank cL_rank 5 (some .int) [(0, 10, 13, 13), (0, 10, 17, 15)]] rm_L D cA cL [.ref (ad 70), .int p0, .int p1, .ref o] ((o, .inl (cL, 1, .inr (.inl f))) :: rlW cA ad g z) (nI 0) ((o, .inl (cL, 1, .inr (.inl (vp_updL f 0 r.toInt64)))) :: rlW cA ad g2 z2) := by
  refine q_startL RL (by decide +kernel) rfl (Nat.le_of_ble_eq_true rfl) ?_
  intro p e s m below meth c A args H locs ls hx hb hr hml hown hT hlk hP hK hD hA hS hl htb hX hN hZ
  have hl : lv_has ls 5 [(0, .ref (ad 70)), (1, .int p0), (2, .int p1), (3, .ref o)] := hl
  refine lv_aload_n hx hb dL_rank_0 rfl (lv_at hl 3 rfl) ?_
  refine lv_iconst (v := nI 0) hx hb dL_rank_1 (by decide +kernel) ?_
  refine lv_aload_n hx hb dL_rank_2 rfl (lv_at hl 0 rfl) ?_
  refine lv_iload_n hx hb dL_rank_3 rfl (lv_at hl 1 rfl) ?_
  refine lv_iload_n hx hb dL_rank_4 rfl (lv_at hl 2 rfl) ?_
  refine q_callIS (As := [.int p0, .int p1]) (r := r) (w1 := rlW cA ad g2 z2) hx hb hml hown hT (q_kint hK) hP hD hS hA  hM k_X5_rank kl_L_19 (q0 := 0) rfl rfl rfl [(o, .inl (cL, 1, .inr (.inl f)))] [] wp_1 wp_1.symm ((rlW_adr _ _ _ _).trans (rlW_adr _ _ _ _).symm) hl rfl rfl (Nat.le_of_ble_eq_true rfl) ⟨⟨hrm.1, hrm.2.1⟩, (by show rm.frames + 1 ≤ 9; omega), (by show 8 + (4 + 11) + rm.locals ≤ 180; omega)⟩ ⟨Nat.zero_le _, Nat.zero_le _⟩ dL_rank_5 (fun H locs hP hD hS => ?_)
  refine lv_i2l (v := r.toInt64) hx hb dL_rank_8 rfl ?_
  refine q_last (x := r.toInt64) (ws1 := (o, .inl (cL, 1, .inr (.inl (vp_updL f 0 r.toInt64)))) :: rlW cA ad g2 z2) hx hb hK hP hD hS 0 rfl rfl rfl dL_rank_9 (fun H locs hP hD hS => ?_)
  refine lv_goto (tgt := 21) hx hb dL_rank_10 (by decide) ?_
  refine lv_iconst (v := nI 0) hx hb dL_rank_21 (by decide +kernel) ?_
  exact q_lret hx hb hr hlk rfl hP hS (by decide) (by decide) dL_rank_22
set_option maxRecDepth 100000 in
set_option maxHeartbeats 4000000 in
theorem wx_rank_iob (l : Launch) (D : va_G) (cA cL : ClassId) (ad : Nat → Nat) (g g2 : Nat → Nat → Int32) (z z2 : Nat → Nat) (o : Nat) (f : Nat → Int64) (p0 : Int32) (p1 : Int32) (rm : Room) (hrm : rm.cells = 1 ∧ rm.slots = 6 ∧ rm.frames ≤ 8 ∧ rm.locals ≤ 139) (hM : q_CX l yX5_rank [Cond.code yX5_rank cX5_rank 4 (some .int)] rm D cA (.ref (ad 70) :: [.int p0, .int p1]) (rlW cA ad g z) "java/lang/IndexOutOfBoundsException" (rlW cA ad g2 z2)) : q_CL l yL_rank [Cond.codeWith yL_rank cL_rank 5 (some .int) [(0, 10, 13, 13), (0, 10, 17, 15)]] rm_L D cA cL [.ref (ad 70), .int p0, .int p1, .ref o] ((o, .inl (cL, 1, .inr (.inl f))) :: rlW cA ad g z) (nI 1) ((o, .inl (cL, 1, .inr (.inl f))) :: rlW cA ad g2 z2) := by
  refine q_startL RL (by decide +kernel) rfl (Nat.le_of_ble_eq_true rfl) ?_
  intro p e s m below meth c A args H locs ls hx hb hr hml hown hT hlk hP hK hD hA hS hl htb hX hN hZ
  have hl : lv_has ls 5 [(0, .ref (ad 70)), (1, .int p0), (2, .int p1), (3, .ref o)] := hl
  refine lv_aload_n hx hb dL_rank_0 rfl (lv_at hl 3 rfl) ?_
  refine lv_iconst (v := nI 0) hx hb dL_rank_1 (by decide +kernel) ?_
  refine lv_aload_n hx hb dL_rank_2 rfl (lv_at hl 0 rfl) ?_
  refine lv_iload_n hx hb dL_rank_3 rfl (lv_at hl 1 rfl) ?_
  refine lv_iload_n hx hb dL_rank_4 rfl (lv_at hl 2 rfl) ?_
  refine q_callXC (As := [.int p0, .int p1]) (w1 := rlW cA ad g2 z2) (name := "java/lang/IndexOutOfBoundsException") hx hb hml hown hT (q_kint hK) hP hD hS hA  hX hZ hM k_X5_rank kl_L_19 (q0 := 0) rfl rfl rfl [(o, .inl (cL, 1, .inr (.inl f)))] [] wp_1 wp_1.symm ((rlW_adr _ _ _ _).trans (rlW_adr _ _ _ _).symm) hl rfl rfl (Nat.le_of_ble_eq_true rfl) ⟨⟨hrm.1, hrm.2.1⟩, (by show rm.frames + 1 ≤ 9; omega), (by show 8 + (4 + 11) + rm.locals ≤ 180; omega)⟩ ⟨Nat.le_of_ble_eq_true rfl, Nat.le_of_ble_eq_true rfl⟩ dL_rank_5 [] ⟨0, 10, 13, 13⟩ [⟨0, 10, 17, 15⟩] htb (fun z hz => absurd hz List.not_mem_nil) (by decide) (by decide) kx_L_13 q_cast_iob (fun q9 H locs hP hD hS => ?_)
  refine lv_astore (lv' := [(4, .ref q9), (0, .ref (ad 70)), (1, .int p0), (2, .int p1), (3, .ref o)]) hx hb dL_rank_13 hl (by decide) rfl (fun ls hl => ?_)
  refine lv_iconst (v := nI 1) hx hb dL_rank_15 (by decide +kernel) ?_
  exact q_lret hx hb hr hlk rfl hP hS (by decide) (by decide) dL_rank_16
set_option maxRecDepth 100000 in
set_option maxHeartbeats 4000000 in
theorem wx_rank_iae (l : Launch) (D : va_G) (cA cL : ClassId) (ad : Nat → Nat) (g g2 : Nat → Nat → Int32) (z z2 : Nat → Nat) (o : Nat) (f : Nat → Int64) (p0 : Int32) (p1 : Int32) (rm : Room) (hrm : rm.cells = 1 ∧ rm.slots = 6 ∧ rm.frames ≤ 8 ∧ rm.locals ≤ 139) (hM : q_CX l yX5_rank [Cond.code yX5_rank cX5_rank 4 (some .int)] rm D cA (.ref (ad 70) :: [.int p0, .int p1]) (rlW cA ad g z) "java/lang/IllegalArgumentException" (rlW cA ad g2 z2)) : q_CL l yL_rank [Cond.codeWith yL_rank cL_rank 5 (some .int) [(0, 10, 13, 13), (0, 10, 17, 15)]] rm_L D cA cL [.ref (ad 70), .int p0, .int p1, .ref o] ((o, .inl (cL, 1, .inr (.inl f))) :: rlW cA ad g z) (nI 2) ((o, .inl (cL, 1, .inr (.inl f))) :: rlW cA ad g2 z2) := by
  refine q_startL RL (by decide +kernel) rfl (Nat.le_of_ble_eq_true rfl) ?_
  intro p e s m below meth c A args H locs ls hx hb hr hml hown hT hlk hP hK hD hA hS hl htb hX hN hZ
  have hl : lv_has ls 5 [(0, .ref (ad 70)), (1, .int p0), (2, .int p1), (3, .ref o)] := hl
  refine lv_aload_n hx hb dL_rank_0 rfl (lv_at hl 3 rfl) ?_
  refine lv_iconst (v := nI 0) hx hb dL_rank_1 (by decide +kernel) ?_
  refine lv_aload_n hx hb dL_rank_2 rfl (lv_at hl 0 rfl) ?_
  refine lv_iload_n hx hb dL_rank_3 rfl (lv_at hl 1 rfl) ?_
  refine lv_iload_n hx hb dL_rank_4 rfl (lv_at hl 2 rfl) ?_
  refine q_callXC (As := [.int p0, .int p1]) (w1 := rlW cA ad g2 z2) (name := "java/lang/IllegalArgumentException") hx hb hml hown hT (q_kint hK) hP hD hS hA  hX hZ hM k_X5_rank kl_L_19 (q0 := 0) rfl rfl rfl [(o, .inl (cL, 1, .inr (.inl f)))] [] wp_1 wp_1.symm ((rlW_adr _ _ _ _).trans (rlW_adr _ _ _ _).symm) hl rfl rfl (Nat.le_of_ble_eq_true rfl) ⟨⟨hrm.1, hrm.2.1⟩, (by show rm.frames + 1 ≤ 9; omega), (by show 8 + (4 + 11) + rm.locals ≤ 180; omega)⟩ ⟨Nat.le_of_ble_eq_true rfl, Nat.le_of_ble_eq_true rfl⟩ dL_rank_5 [⟨0, 10, 13, 13⟩] ⟨0, 10, 17, 15⟩ [] htb (fun z hz => Or.inr (by rw [List.mem_singleton.mp hz]; exact ⟨by decide, _, hT.use kx_L_13 args, hN.1⟩)) (by decide) (by decide) kx_L_15 q_cast_iae (fun q9 H locs hP hD hS => ?_)
  refine lv_astore (lv' := [(4, .ref q9), (0, .ref (ad 70)), (1, .int p0), (2, .int p1), (3, .ref o)]) hx hb dL_rank_17 hl (by decide) rfl (fun ls hl => ?_)
  refine lv_iconst (v := nI 2) hx hb dL_rank_19 (by decide +kernel) ?_
  exact q_lret hx hb hr hlk rfl hP hS (by decide) (by decide) dL_rank_20
set_option maxRecDepth 100000 in
set_option maxHeartbeats 4000000 in
theorem wo_bar (l : Launch) (D : va_G) (cA cL : ClassId) (ad : Nat → Nat) (g g2 : Nat → Nat → Int32) (z z2 : Nat → Nat) (o : Nat) (f : Nat → Int64) (p0 : Int32) (p1 : Int32) (p2 : Int32) (rm : Room) (bb : Bool) (hrm : rm.cells = 0 ∧ rm.slots = 0 ∧ rm.frames ≤ 8 ∧ rm.locals ≤ 139) (hM : q_CI l yX5_bar [Cond.code yX5_bar cX5_bar 4 (some .boolean)] rm D cA (.ref (ad 70) :: [.int p0, .int p1, .int p2]) (rlW cA ad g z) (q_b bb) (rlW cA ad g2 z2)) : q_CL l yL_bar [Cond.codeWith yL_bar cL_bar 6 (some .int) [(0, 19, 22, 13), (0, 19, 26, 15)]] rm_L D cA cL [.ref (ad 70), .int p0, .int p1, .int p2, .ref o] ((o, .inl (cL, 1, .inr (.inl f))) :: rlW cA ad g z) (nI 0) ((o, .inl (cL, 1, .inr (.inl (vp_updL f 0 (q_L bb))))) :: rlW cA ad g2 z2) := by
  refine q_startL RL (by decide +kernel) rfl (Nat.le_of_ble_eq_true rfl) ?_
  intro p e s m below meth c A args H locs ls hx hb hr hml hown hT hlk hP hK hD hA hS hl htb hX hN hZ
  have hl : lv_has ls 6 [(0, .ref (ad 70)), (1, .int p0), (2, .int p1), (3, .int p2), (4, .ref o)] := hl
  refine lv_aload hx hb dL_bar_0 (lv_at hl 4 rfl) ?_
  refine lv_iconst (v := nI 0) hx hb dL_bar_2 (by decide +kernel) ?_
  refine lv_aload_n hx hb dL_bar_3 rfl (lv_at hl 0 rfl) ?_
  refine lv_iload_n hx hb dL_bar_4 rfl (lv_at hl 1 rfl) ?_
  refine lv_iload_n hx hb dL_bar_5 rfl (lv_at hl 2 rfl) ?_
  refine lv_iload_n hx hb dL_bar_6 rfl (lv_at hl 3 rfl) ?_
  refine q_callIS (As := [.int p0, .int p1, .int p2]) (r := (q_b bb)) (w1 := rlW cA ad g2 z2) hx hb hml hown hT (q_kint hK) hP hD hS hA  hM k_X5_bar kl_L_23 (q0 := 0) rfl rfl rfl [(o, .inl (cL, 1, .inr (.inl f)))] [] wp_1 wp_1.symm ((rlW_adr _ _ _ _).trans (rlW_adr _ _ _ _).symm) hl rfl rfl (Nat.le_of_ble_eq_true rfl) ⟨⟨hrm.1, hrm.2.1⟩, (by show rm.frames + 1 ≤ 9; omega), (by show 8 + (4 + 11) + rm.locals ≤ 180; omega)⟩ ⟨Nat.zero_le _, Nat.zero_le _⟩ dL_bar_7 (fun H locs hP hD hS => ?_)
  refine lv_if_eq (tgt := 17) hx hb dL_bar_10 (by decide) (fun c9 => ?_) (fun c9 => ?_)
  · have c9 := q_b0e c9
    subst c9
    refine lv_lconst (v := q_L false) hx hb dL_bar_17 (by decide +kernel) ?_
    refine q_last (x := q_L false) (ws1 := (o, .inl (cL, 1, .inr (.inl (vp_updL f 0 (q_L false))))) :: rlW cA ad g2 z2) hx hb hK hP hD hS 0 rfl rfl rfl dL_bar_18 (fun H locs hP hD hS => ?_)
    refine lv_goto (tgt := 30) hx hb dL_bar_19 (by decide) ?_
    refine lv_iconst (v := nI 0) hx hb dL_bar_30 (by decide +kernel) ?_
    exact q_lret hx hb hr hlk rfl hP hS (by decide) (by decide) dL_bar_31
  · have c9 := q_b0n c9
    subst c9
    refine lv_lconst (v := q_L true) hx hb dL_bar_13 (by decide +kernel) ?_
    refine lv_goto (tgt := 18) hx hb dL_bar_14 (by decide) ?_
    refine q_last (x := q_L true) (ws1 := (o, .inl (cL, 1, .inr (.inl (vp_updL f 0 (q_L true))))) :: rlW cA ad g2 z2) hx hb hK hP hD hS 0 rfl rfl rfl dL_bar_18 (fun H locs hP hD hS => ?_)
    refine lv_goto (tgt := 30) hx hb dL_bar_19 (by decide) ?_
    refine lv_iconst (v := nI 0) hx hb dL_bar_30 (by decide +kernel) ?_
    exact q_lret hx hb hr hlk rfl hP hS (by decide) (by decide) dL_bar_31
set_option maxRecDepth 100000 in
set_option maxHeartbeats 4000000 in
theorem wx_bar_iob (l : Launch) (D : va_G) (cA cL : ClassId) (ad : Nat → Nat) (g g2 : Nat → Nat → Int32) (z z2 : Nat → Nat) (o : Nat) (f : Nat → Int64) (p0 : Int32) (p1 : Int32) (p2 : Int32) (rm : Room) (hrm : rm.cells = 1 ∧ rm.slots = 6 ∧ rm.frames ≤ 8 ∧ rm.locals ≤ 139) (hM : q_CX l yX5_bar [Cond.code yX5_bar cX5_bar 4 (some .boolean)] rm D cA (.ref (ad 70) :: [.int p0, .int p1, .int p2]) (rlW cA ad g z) "java/lang/IndexOutOfBoundsException" (rlW cA ad g2 z2)) : q_CL l yL_bar [Cond.codeWith yL_bar cL_bar 6 (some .int) [(0, 19, 22, 13), (0, 19, 26, 15)]] rm_L D cA cL [.ref (ad 70), .int p0, .int p1, .int p2, .ref o] ((o, .inl (cL, 1, .inr (.inl f))) :: rlW cA ad g z) (nI 1) ((o, .inl (cL, 1, .inr (.inl f))) :: rlW cA ad g2 z2) := by
  refine q_startL RL (by decide +kernel) rfl (Nat.le_of_ble_eq_true rfl) ?_
  intro p e s m below meth c A args H locs ls hx hb hr hml hown hT hlk hP hK hD hA hS hl htb hX hN hZ
  have hl : lv_has ls 6 [(0, .ref (ad 70)), (1, .int p0), (2, .int p1), (3, .int p2), (4, .ref o)] := hl
  refine lv_aload hx hb dL_bar_0 (lv_at hl 4 rfl) ?_
  refine lv_iconst (v := nI 0) hx hb dL_bar_2 (by decide +kernel) ?_
  refine lv_aload_n hx hb dL_bar_3 rfl (lv_at hl 0 rfl) ?_
  refine lv_iload_n hx hb dL_bar_4 rfl (lv_at hl 1 rfl) ?_
  refine lv_iload_n hx hb dL_bar_5 rfl (lv_at hl 2 rfl) ?_
  refine lv_iload_n hx hb dL_bar_6 rfl (lv_at hl 3 rfl) ?_
  refine q_callXC (As := [.int p0, .int p1, .int p2]) (w1 := rlW cA ad g2 z2) (name := "java/lang/IndexOutOfBoundsException") hx hb hml hown hT (q_kint hK) hP hD hS hA  hX hZ hM k_X5_bar kl_L_23 (q0 := 0) rfl rfl rfl [(o, .inl (cL, 1, .inr (.inl f)))] [] wp_1 wp_1.symm ((rlW_adr _ _ _ _).trans (rlW_adr _ _ _ _).symm) hl rfl rfl (Nat.le_of_ble_eq_true rfl) ⟨⟨hrm.1, hrm.2.1⟩, (by show rm.frames + 1 ≤ 9; omega), (by show 8 + (4 + 11) + rm.locals ≤ 180; omega)⟩ ⟨Nat.le_of_ble_eq_true rfl, Nat.le_of_ble_eq_true rfl⟩ dL_bar_7 [] ⟨0, 19, 22, 13⟩ [⟨0, 19, 26, 15⟩] htb (fun z hz => absurd hz List.not_mem_nil) (by decide) (by decide) kx_L_13 q_cast_iob (fun q9 H locs hP hD hS => ?_)
  refine lv_astore (lv' := [(5, .ref q9), (0, .ref (ad 70)), (1, .int p0), (2, .int p1), (3, .int p2), (4, .ref o)]) hx hb dL_bar_22 hl (by decide) rfl (fun ls hl => ?_)
  refine lv_iconst (v := nI 1) hx hb dL_bar_24 (by decide +kernel) ?_
  exact q_lret hx hb hr hlk rfl hP hS (by decide) (by decide) dL_bar_25
set_option maxRecDepth 100000 in
set_option maxHeartbeats 4000000 in
theorem wx_bar_iae (l : Launch) (D : va_G) (cA cL : ClassId) (ad : Nat → Nat) (g g2 : Nat → Nat → Int32) (z z2 : Nat → Nat) (o : Nat) (f : Nat → Int64) (p0 : Int32) (p1 : Int32) (p2 : Int32) (rm : Room) (hrm : rm.cells = 1 ∧ rm.slots = 6 ∧ rm.frames ≤ 8 ∧ rm.locals ≤ 139) (hM : q_CX l yX5_bar [Cond.code yX5_bar cX5_bar 4 (some .boolean)] rm D cA (.ref (ad 70) :: [.int p0, .int p1, .int p2]) (rlW cA ad g z) "java/lang/IllegalArgumentException" (rlW cA ad g2 z2)) : q_CL l yL_bar [Cond.codeWith yL_bar cL_bar 6 (some .int) [(0, 19, 22, 13), (0, 19, 26, 15)]] rm_L D cA cL [.ref (ad 70), .int p0, .int p1, .int p2, .ref o] ((o, .inl (cL, 1, .inr (.inl f))) :: rlW cA ad g z) (nI 2) ((o, .inl (cL, 1, .inr (.inl f))) :: rlW cA ad g2 z2) := by
  refine q_startL RL (by decide +kernel) rfl (Nat.le_of_ble_eq_true rfl) ?_
  intro p e s m below meth c A args H locs ls hx hb hr hml hown hT hlk hP hK hD hA hS hl htb hX hN hZ
  have hl : lv_has ls 6 [(0, .ref (ad 70)), (1, .int p0), (2, .int p1), (3, .int p2), (4, .ref o)] := hl
  refine lv_aload hx hb dL_bar_0 (lv_at hl 4 rfl) ?_
  refine lv_iconst (v := nI 0) hx hb dL_bar_2 (by decide +kernel) ?_
  refine lv_aload_n hx hb dL_bar_3 rfl (lv_at hl 0 rfl) ?_
  refine lv_iload_n hx hb dL_bar_4 rfl (lv_at hl 1 rfl) ?_
  refine lv_iload_n hx hb dL_bar_5 rfl (lv_at hl 2 rfl) ?_
  refine lv_iload_n hx hb dL_bar_6 rfl (lv_at hl 3 rfl) ?_
  refine q_callXC (As := [.int p0, .int p1, .int p2]) (w1 := rlW cA ad g2 z2) (name := "java/lang/IllegalArgumentException") hx hb hml hown hT (q_kint hK) hP hD hS hA  hX hZ hM k_X5_bar kl_L_23 (q0 := 0) rfl rfl rfl [(o, .inl (cL, 1, .inr (.inl f)))] [] wp_1 wp_1.symm ((rlW_adr _ _ _ _).trans (rlW_adr _ _ _ _).symm) hl rfl rfl (Nat.le_of_ble_eq_true rfl) ⟨⟨hrm.1, hrm.2.1⟩, (by show rm.frames + 1 ≤ 9; omega), (by show 8 + (4 + 11) + rm.locals ≤ 180; omega)⟩ ⟨Nat.le_of_ble_eq_true rfl, Nat.le_of_ble_eq_true rfl⟩ dL_bar_7 [⟨0, 19, 22, 13⟩] ⟨0, 19, 26, 15⟩ [] htb (fun z hz => Or.inr (by rw [List.mem_singleton.mp hz]; exact ⟨by decide, _, hT.use kx_L_13 args, hN.1⟩)) (by decide) (by decide) kx_L_15 q_cast_iae (fun q9 H locs hP hD hS => ?_)
  refine lv_astore (lv' := [(5, .ref q9), (0, .ref (ad 70)), (1, .int p0), (2, .int p1), (3, .int p2), (4, .ref o)]) hx hb dL_bar_26 hl (by decide) rfl (fun ls hl => ?_)
  refine lv_iconst (v := nI 2) hx hb dL_bar_28 (by decide +kernel) ?_
  exact q_lret hx hb hr hlk rfl hP hS (by decide) (by decide) dL_bar_29
set_option maxRecDepth 100000 in
set_option maxHeartbeats 4000000 in
theorem wo_ahead (l : Launch) (D : va_G) (cA cL : ClassId) (ad : Nat → Nat) (g g2 : Nat → Nat → Int32) (z z2 : Nat → Nat) (o : Nat) (f : Nat → Int64) (p0 : Int32) (p1 : Int32) (p2 : Int32) (rm : Room) (r : Int32) (hrm : rm.cells = 0 ∧ rm.slots = 0 ∧ rm.frames ≤ 8 ∧ rm.locals ≤ 139) (hM : q_CI l yX5_ahead [Cond.code yX5_ahead cX5_ahead 5 (some .int)] rm D cA (.ref (ad 70) :: [.int p0, .int p1, .int p2]) (rlW cA ad g z) r (rlW cA ad g2 z2)) : q_CL l yL_ahead [Cond.codeWith yL_ahead cL_ahead 6 (some .int) [(0, 12, 15, 13), (0, 12, 19, 15), (0, 12, 23, 17)]] rm_L D cA cL [.ref (ad 70), .int p0, .int p1, .int p2, .ref o] ((o, .inl (cL, 1, .inr (.inl f))) :: rlW cA ad g z) (nI 0) ((o, .inl (cL, 1, .inr (.inl (vp_updL f 0 r.toInt64)))) :: rlW cA ad g2 z2) := by
  refine q_startL RL (by decide +kernel) rfl (Nat.le_of_ble_eq_true rfl) ?_
  intro p e s m below meth c A args H locs ls hx hb hr hml hown hT hlk hP hK hD hA hS hl htb hX hN hZ
  have hl : lv_has ls 6 [(0, .ref (ad 70)), (1, .int p0), (2, .int p1), (3, .int p2), (4, .ref o)] := hl
  refine lv_aload hx hb dL_ahead_0 (lv_at hl 4 rfl) ?_
  refine lv_iconst (v := nI 0) hx hb dL_ahead_2 (by decide +kernel) ?_
  refine lv_aload_n hx hb dL_ahead_3 rfl (lv_at hl 0 rfl) ?_
  refine lv_iload_n hx hb dL_ahead_4 rfl (lv_at hl 1 rfl) ?_
  refine lv_iload_n hx hb dL_ahead_5 rfl (lv_at hl 2 rfl) ?_
  refine lv_iload_n hx hb dL_ahead_6 rfl (lv_at hl 3 rfl) ?_
  refine q_callIS (As := [.int p0, .int p1, .int p2]) (r := r) (w1 := rlW cA ad g2 z2) hx hb hml hown hT (q_kint hK) hP hD hS hA  hM k_X5_ahead kl_L_27 (q0 := 0) rfl rfl rfl [(o, .inl (cL, 1, .inr (.inl f)))] [] wp_1 wp_1.symm ((rlW_adr _ _ _ _).trans (rlW_adr _ _ _ _).symm) hl rfl rfl (Nat.le_of_ble_eq_true rfl) ⟨⟨hrm.1, hrm.2.1⟩, (by show rm.frames + 1 ≤ 9; omega), (by show 8 + (5 + 11) + rm.locals ≤ 180; omega)⟩ ⟨Nat.zero_le _, Nat.zero_le _⟩ dL_ahead_7 (fun H locs hP hD hS => ?_)
  refine lv_i2l (v := r.toInt64) hx hb dL_ahead_10 rfl ?_
  refine q_last (x := r.toInt64) (ws1 := (o, .inl (cL, 1, .inr (.inl (vp_updL f 0 r.toInt64)))) :: rlW cA ad g2 z2) hx hb hK hP hD hS 0 rfl rfl rfl dL_ahead_11 (fun H locs hP hD hS => ?_)
  refine lv_goto (tgt := 27) hx hb dL_ahead_12 (by decide) ?_
  refine lv_iconst (v := nI 0) hx hb dL_ahead_27 (by decide +kernel) ?_
  exact q_lret hx hb hr hlk rfl hP hS (by decide) (by decide) dL_ahead_28
set_option maxRecDepth 100000 in
set_option maxHeartbeats 4000000 in
theorem wx_ahead_iob (l : Launch) (D : va_G) (cA cL : ClassId) (ad : Nat → Nat) (g g2 : Nat → Nat → Int32) (z z2 : Nat → Nat) (o : Nat) (f : Nat → Int64) (p0 : Int32) (p1 : Int32) (p2 : Int32) (rm : Room) (hrm : rm.cells = 1 ∧ rm.slots = 6 ∧ rm.frames ≤ 8 ∧ rm.locals ≤ 139) (hM : q_CX l yX5_ahead [Cond.code yX5_ahead cX5_ahead 5 (some .int)] rm D cA (.ref (ad 70) :: [.int p0, .int p1, .int p2]) (rlW cA ad g z) "java/lang/IndexOutOfBoundsException" (rlW cA ad g2 z2)) : q_CL l yL_ahead [Cond.codeWith yL_ahead cL_ahead 6 (some .int) [(0, 12, 15, 13), (0, 12, 19, 15), (0, 12, 23, 17)]] rm_L D cA cL [.ref (ad 70), .int p0, .int p1, .int p2, .ref o] ((o, .inl (cL, 1, .inr (.inl f))) :: rlW cA ad g z) (nI 1) ((o, .inl (cL, 1, .inr (.inl f))) :: rlW cA ad g2 z2) := by
  refine q_startL RL (by decide +kernel) rfl (Nat.le_of_ble_eq_true rfl) ?_
  intro p e s m below meth c A args H locs ls hx hb hr hml hown hT hlk hP hK hD hA hS hl htb hX hN hZ
  have hl : lv_has ls 6 [(0, .ref (ad 70)), (1, .int p0), (2, .int p1), (3, .int p2), (4, .ref o)] := hl
  refine lv_aload hx hb dL_ahead_0 (lv_at hl 4 rfl) ?_
  refine lv_iconst (v := nI 0) hx hb dL_ahead_2 (by decide +kernel) ?_
  refine lv_aload_n hx hb dL_ahead_3 rfl (lv_at hl 0 rfl) ?_
  refine lv_iload_n hx hb dL_ahead_4 rfl (lv_at hl 1 rfl) ?_
  refine lv_iload_n hx hb dL_ahead_5 rfl (lv_at hl 2 rfl) ?_
  refine lv_iload_n hx hb dL_ahead_6 rfl (lv_at hl 3 rfl) ?_
  refine q_callXC (As := [.int p0, .int p1, .int p2]) (w1 := rlW cA ad g2 z2) (name := "java/lang/IndexOutOfBoundsException") hx hb hml hown hT (q_kint hK) hP hD hS hA  hX hZ hM k_X5_ahead kl_L_27 (q0 := 0) rfl rfl rfl [(o, .inl (cL, 1, .inr (.inl f)))] [] wp_1 wp_1.symm ((rlW_adr _ _ _ _).trans (rlW_adr _ _ _ _).symm) hl rfl rfl (Nat.le_of_ble_eq_true rfl) ⟨⟨hrm.1, hrm.2.1⟩, (by show rm.frames + 1 ≤ 9; omega), (by show 8 + (5 + 11) + rm.locals ≤ 180; omega)⟩ ⟨Nat.le_of_ble_eq_true rfl, Nat.le_of_ble_eq_true rfl⟩ dL_ahead_7 [] ⟨0, 12, 15, 13⟩ [⟨0, 12, 19, 15⟩, ⟨0, 12, 23, 17⟩] htb (fun z hz => absurd hz List.not_mem_nil) (by decide) (by decide) kx_L_13 q_cast_iob (fun q9 H locs hP hD hS => ?_)
  refine lv_astore (lv' := [(5, .ref q9), (0, .ref (ad 70)), (1, .int p0), (2, .int p1), (3, .int p2), (4, .ref o)]) hx hb dL_ahead_15 hl (by decide) rfl (fun ls hl => ?_)
  refine lv_iconst (v := nI 1) hx hb dL_ahead_17 (by decide +kernel) ?_
  exact q_lret hx hb hr hlk rfl hP hS (by decide) (by decide) dL_ahead_18
set_option maxRecDepth 100000 in
set_option maxHeartbeats 4000000 in
theorem wx_ahead_iae (l : Launch) (D : va_G) (cA cL : ClassId) (ad : Nat → Nat) (g g2 : Nat → Nat → Int32) (z z2 : Nat → Nat) (o : Nat) (f : Nat → Int64) (p0 : Int32) (p1 : Int32) (p2 : Int32) (rm : Room) (hrm : rm.cells = 1 ∧ rm.slots = 6 ∧ rm.frames ≤ 8 ∧ rm.locals ≤ 139) (hM : q_CX l yX5_ahead [Cond.code yX5_ahead cX5_ahead 5 (some .int)] rm D cA (.ref (ad 70) :: [.int p0, .int p1, .int p2]) (rlW cA ad g z) "java/lang/IllegalArgumentException" (rlW cA ad g2 z2)) : q_CL l yL_ahead [Cond.codeWith yL_ahead cL_ahead 6 (some .int) [(0, 12, 15, 13), (0, 12, 19, 15), (0, 12, 23, 17)]] rm_L D cA cL [.ref (ad 70), .int p0, .int p1, .int p2, .ref o] ((o, .inl (cL, 1, .inr (.inl f))) :: rlW cA ad g z) (nI 2) ((o, .inl (cL, 1, .inr (.inl f))) :: rlW cA ad g2 z2) := by
  refine q_startL RL (by decide +kernel) rfl (Nat.le_of_ble_eq_true rfl) ?_
  intro p e s m below meth c A args H locs ls hx hb hr hml hown hT hlk hP hK hD hA hS hl htb hX hN hZ
  have hl : lv_has ls 6 [(0, .ref (ad 70)), (1, .int p0), (2, .int p1), (3, .int p2), (4, .ref o)] := hl
  refine lv_aload hx hb dL_ahead_0 (lv_at hl 4 rfl) ?_
  refine lv_iconst (v := nI 0) hx hb dL_ahead_2 (by decide +kernel) ?_
  refine lv_aload_n hx hb dL_ahead_3 rfl (lv_at hl 0 rfl) ?_
  refine lv_iload_n hx hb dL_ahead_4 rfl (lv_at hl 1 rfl) ?_
  refine lv_iload_n hx hb dL_ahead_5 rfl (lv_at hl 2 rfl) ?_
  refine lv_iload_n hx hb dL_ahead_6 rfl (lv_at hl 3 rfl) ?_
  refine q_callXC (As := [.int p0, .int p1, .int p2]) (w1 := rlW cA ad g2 z2) (name := "java/lang/IllegalArgumentException") hx hb hml hown hT (q_kint hK) hP hD hS hA  hX hZ hM k_X5_ahead kl_L_27 (q0 := 0) rfl rfl rfl [(o, .inl (cL, 1, .inr (.inl f)))] [] wp_1 wp_1.symm ((rlW_adr _ _ _ _).trans (rlW_adr _ _ _ _).symm) hl rfl rfl (Nat.le_of_ble_eq_true rfl) ⟨⟨hrm.1, hrm.2.1⟩, (by show rm.frames + 1 ≤ 9; omega), (by show 8 + (5 + 11) + rm.locals ≤ 180; omega)⟩ ⟨Nat.le_of_ble_eq_true rfl, Nat.le_of_ble_eq_true rfl⟩ dL_ahead_7 [⟨0, 12, 15, 13⟩] ⟨0, 12, 19, 15⟩ [⟨0, 12, 23, 17⟩] htb (fun z hz => Or.inr (by rw [List.mem_singleton.mp hz]; exact ⟨by decide, _, hT.use kx_L_13 args, hN.1⟩)) (by decide) (by decide) kx_L_15 q_cast_iae (fun q9 H locs hP hD hS => ?_)
  refine lv_astore (lv' := [(5, .ref q9), (0, .ref (ad 70)), (1, .int p0), (2, .int p1), (3, .int p2), (4, .ref o)]) hx hb dL_ahead_19 hl (by decide) rfl (fun ls hl => ?_)
  refine lv_iconst (v := nI 2) hx hb dL_ahead_21 (by decide +kernel) ?_
  exact q_lret hx hb hr hlk rfl hP hS (by decide) (by decide) dL_ahead_22
set_option maxRecDepth 100000 in
set_option maxHeartbeats 4000000 in
theorem wx_ahead_ise (l : Launch) (D : va_G) (cA cL : ClassId) (ad : Nat → Nat) (g g2 : Nat → Nat → Int32) (z z2 : Nat → Nat) (o : Nat) (f : Nat → Int64) (p0 : Int32) (p1 : Int32) (p2 : Int32) (rm : Room) (hrm : rm.cells = 1 ∧ rm.slots = 6 ∧ rm.frames ≤ 8 ∧ rm.locals ≤ 139) (hM : q_CX l yX5_ahead [Cond.code yX5_ahead cX5_ahead 5 (some .int)] rm D cA (.ref (ad 70) :: [.int p0, .int p1, .int p2]) (rlW cA ad g z) "java/lang/IllegalStateException" (rlW cA ad g2 z2)) : q_CL l yL_ahead [Cond.codeWith yL_ahead cL_ahead 6 (some .int) [(0, 12, 15, 13), (0, 12, 19, 15), (0, 12, 23, 17)]] rm_L D cA cL [.ref (ad 70), .int p0, .int p1, .int p2, .ref o] ((o, .inl (cL, 1, .inr (.inl f))) :: rlW cA ad g z) (nI 3) ((o, .inl (cL, 1, .inr (.inl f))) :: rlW cA ad g2 z2) := by
  refine q_startL RL (by decide +kernel) rfl (Nat.le_of_ble_eq_true rfl) ?_
  intro p e s m below meth c A args H locs ls hx hb hr hml hown hT hlk hP hK hD hA hS hl htb hX hN hZ
  have hl : lv_has ls 6 [(0, .ref (ad 70)), (1, .int p0), (2, .int p1), (3, .int p2), (4, .ref o)] := hl
  refine lv_aload hx hb dL_ahead_0 (lv_at hl 4 rfl) ?_
  refine lv_iconst (v := nI 0) hx hb dL_ahead_2 (by decide +kernel) ?_
  refine lv_aload_n hx hb dL_ahead_3 rfl (lv_at hl 0 rfl) ?_
  refine lv_iload_n hx hb dL_ahead_4 rfl (lv_at hl 1 rfl) ?_
  refine lv_iload_n hx hb dL_ahead_5 rfl (lv_at hl 2 rfl) ?_
  refine lv_iload_n hx hb dL_ahead_6 rfl (lv_at hl 3 rfl) ?_
  refine q_callXC (As := [.int p0, .int p1, .int p2]) (w1 := rlW cA ad g2 z2) (name := "java/lang/IllegalStateException") hx hb hml hown hT (q_kint hK) hP hD hS hA  hX hZ hM k_X5_ahead kl_L_27 (q0 := 0) rfl rfl rfl [(o, .inl (cL, 1, .inr (.inl f)))] [] wp_1 wp_1.symm ((rlW_adr _ _ _ _).trans (rlW_adr _ _ _ _).symm) hl rfl rfl (Nat.le_of_ble_eq_true rfl) ⟨⟨hrm.1, hrm.2.1⟩, (by show rm.frames + 1 ≤ 9; omega), (by show 8 + (5 + 11) + rm.locals ≤ 180; omega)⟩ ⟨Nat.le_of_ble_eq_true rfl, Nat.le_of_ble_eq_true rfl⟩ dL_ahead_7 [⟨0, 12, 15, 13⟩, ⟨0, 12, 19, 15⟩] ⟨0, 12, 23, 17⟩ [] htb (fun z hz => Or.inr (by rcases List.mem_cons.mp hz with h9 | h9; (rw [h9]; exact ⟨by decide, _, hT.use kx_L_13 args, hN.2.1⟩); (rw [List.mem_singleton.mp h9]; exact ⟨by decide, _, hT.use kx_L_15 args, hN.2.2⟩))) (by decide) (by decide) kx_L_17 q_cast_ise (fun q9 H locs hP hD hS => ?_)
  refine lv_astore (lv' := [(5, .ref q9), (0, .ref (ad 70)), (1, .int p0), (2, .int p1), (3, .int p2), (4, .ref o)]) hx hb dL_ahead_23 hl (by decide) rfl (fun ls hl => ?_)
  refine lv_iconst (v := nI 3) hx hb dL_ahead_25 (by decide +kernel) ?_
  exact q_lret hx hb hr hlk rfl hP hS (by decide) (by decide) dL_ahead_26
set_option maxRecDepth 100000 in
set_option maxHeartbeats 4000000 in
theorem wo_find (l : Launch) (D : va_G) (cA cL : ClassId) (ad : Nat → Nat) (g g2 : Nat → Nat → Int32) (z z2 : Nat → Nat) (o : Nat) (f : Nat → Int64) (p0 : Int32) (p1 : Int32) (p2 : Int32) (rm : Room) (r : Int32) (hrm : rm.cells = 0 ∧ rm.slots = 0 ∧ rm.frames ≤ 8 ∧ rm.locals ≤ 139) (hM : q_CI l yX5_find [Cond.code yX5_find cX5_find 5 (some .int)] rm D cA (.ref (ad 70) :: [.int p0, .int p1, .int p2]) (rlW cA ad g z) r (rlW cA ad g2 z2)) : q_CL l yL_find [Cond.codeWith yL_find cL_find 6 (some .int) [(0, 12, 15, 13), (0, 12, 19, 15), (0, 12, 23, 17)]] rm_L D cA cL [.ref (ad 70), .int p0, .int p1, .int p2, .ref o] ((o, .inl (cL, 1, .inr (.inl f))) :: rlW cA ad g z) (nI 0) ((o, .inl (cL, 1, .inr (.inl (vp_updL f 0 r.toInt64)))) :: rlW cA ad g2 z2) := by
  refine q_startL RL (by decide +kernel) rfl (Nat.le_of_ble_eq_true rfl) ?_
  intro p e s m below meth c A args H locs ls hx hb hr hml hown hT hlk hP hK hD hA hS hl htb hX hN hZ
  have hl : lv_has ls 6 [(0, .ref (ad 70)), (1, .int p0), (2, .int p1), (3, .int p2), (4, .ref o)] := hl
  refine lv_aload hx hb dL_find_0 (lv_at hl 4 rfl) ?_
  refine lv_iconst (v := nI 0) hx hb dL_find_2 (by decide +kernel) ?_
  refine lv_aload_n hx hb dL_find_3 rfl (lv_at hl 0 rfl) ?_
  refine lv_iload_n hx hb dL_find_4 rfl (lv_at hl 1 rfl) ?_
  refine lv_iload_n hx hb dL_find_5 rfl (lv_at hl 2 rfl) ?_
  refine lv_iload_n hx hb dL_find_6 rfl (lv_at hl 3 rfl) ?_
  refine q_callIS (As := [.int p0, .int p1, .int p2]) (r := r) (w1 := rlW cA ad g2 z2) hx hb hml hown hT (q_kint hK) hP hD hS hA  hM k_X5_find kl_L_31 (q0 := 0) rfl rfl rfl [(o, .inl (cL, 1, .inr (.inl f)))] [] wp_1 wp_1.symm ((rlW_adr _ _ _ _).trans (rlW_adr _ _ _ _).symm) hl rfl rfl (Nat.le_of_ble_eq_true rfl) ⟨⟨hrm.1, hrm.2.1⟩, (by show rm.frames + 1 ≤ 9; omega), (by show 8 + (5 + 11) + rm.locals ≤ 180; omega)⟩ ⟨Nat.zero_le _, Nat.zero_le _⟩ dL_find_7 (fun H locs hP hD hS => ?_)
  refine lv_i2l (v := r.toInt64) hx hb dL_find_10 rfl ?_
  refine q_last (x := r.toInt64) (ws1 := (o, .inl (cL, 1, .inr (.inl (vp_updL f 0 r.toInt64)))) :: rlW cA ad g2 z2) hx hb hK hP hD hS 0 rfl rfl rfl dL_find_11 (fun H locs hP hD hS => ?_)
  refine lv_goto (tgt := 27) hx hb dL_find_12 (by decide) ?_
  refine lv_iconst (v := nI 0) hx hb dL_find_27 (by decide +kernel) ?_
  exact q_lret hx hb hr hlk rfl hP hS (by decide) (by decide) dL_find_28
set_option maxRecDepth 100000 in
set_option maxHeartbeats 4000000 in
theorem wx_find_iob (l : Launch) (D : va_G) (cA cL : ClassId) (ad : Nat → Nat) (g g2 : Nat → Nat → Int32) (z z2 : Nat → Nat) (o : Nat) (f : Nat → Int64) (p0 : Int32) (p1 : Int32) (p2 : Int32) (rm : Room) (hrm : rm.cells = 1 ∧ rm.slots = 6 ∧ rm.frames ≤ 8 ∧ rm.locals ≤ 139) (hM : q_CX l yX5_find [Cond.code yX5_find cX5_find 5 (some .int)] rm D cA (.ref (ad 70) :: [.int p0, .int p1, .int p2]) (rlW cA ad g z) "java/lang/IndexOutOfBoundsException" (rlW cA ad g2 z2)) : q_CL l yL_find [Cond.codeWith yL_find cL_find 6 (some .int) [(0, 12, 15, 13), (0, 12, 19, 15), (0, 12, 23, 17)]] rm_L D cA cL [.ref (ad 70), .int p0, .int p1, .int p2, .ref o] ((o, .inl (cL, 1, .inr (.inl f))) :: rlW cA ad g z) (nI 1) ((o, .inl (cL, 1, .inr (.inl f))) :: rlW cA ad g2 z2) := by
  refine q_startL RL (by decide +kernel) rfl (Nat.le_of_ble_eq_true rfl) ?_
  intro p e s m below meth c A args H locs ls hx hb hr hml hown hT hlk hP hK hD hA hS hl htb hX hN hZ
  have hl : lv_has ls 6 [(0, .ref (ad 70)), (1, .int p0), (2, .int p1), (3, .int p2), (4, .ref o)] := hl
  refine lv_aload hx hb dL_find_0 (lv_at hl 4 rfl) ?_
  refine lv_iconst (v := nI 0) hx hb dL_find_2 (by decide +kernel) ?_
  refine lv_aload_n hx hb dL_find_3 rfl (lv_at hl 0 rfl) ?_
  refine lv_iload_n hx hb dL_find_4 rfl (lv_at hl 1 rfl) ?_
  refine lv_iload_n hx hb dL_find_5 rfl (lv_at hl 2 rfl) ?_
  refine lv_iload_n hx hb dL_find_6 rfl (lv_at hl 3 rfl) ?_
  refine q_callXC (As := [.int p0, .int p1, .int p2]) (w1 := rlW cA ad g2 z2) (name := "java/lang/IndexOutOfBoundsException") hx hb hml hown hT (q_kint hK) hP hD hS hA  hX hZ hM k_X5_find kl_L_31 (q0 := 0) rfl rfl rfl [(o, .inl (cL, 1, .inr (.inl f)))] [] wp_1 wp_1.symm ((rlW_adr _ _ _ _).trans (rlW_adr _ _ _ _).symm) hl rfl rfl (Nat.le_of_ble_eq_true rfl) ⟨⟨hrm.1, hrm.2.1⟩, (by show rm.frames + 1 ≤ 9; omega), (by show 8 + (5 + 11) + rm.locals ≤ 180; omega)⟩ ⟨Nat.le_of_ble_eq_true rfl, Nat.le_of_ble_eq_true rfl⟩ dL_find_7 [] ⟨0, 12, 15, 13⟩ [⟨0, 12, 19, 15⟩, ⟨0, 12, 23, 17⟩] htb (fun z hz => absurd hz List.not_mem_nil) (by decide) (by decide) kx_L_13 q_cast_iob (fun q9 H locs hP hD hS => ?_)
  refine lv_astore (lv' := [(5, .ref q9), (0, .ref (ad 70)), (1, .int p0), (2, .int p1), (3, .int p2), (4, .ref o)]) hx hb dL_find_15 hl (by decide) rfl (fun ls hl => ?_)
  refine lv_iconst (v := nI 1) hx hb dL_find_17 (by decide +kernel) ?_
  exact q_lret hx hb hr hlk rfl hP hS (by decide) (by decide) dL_find_18
set_option maxRecDepth 100000 in
set_option maxHeartbeats 4000000 in
theorem wx_find_iae (l : Launch) (D : va_G) (cA cL : ClassId) (ad : Nat → Nat) (g g2 : Nat → Nat → Int32) (z z2 : Nat → Nat) (o : Nat) (f : Nat → Int64) (p0 : Int32) (p1 : Int32) (p2 : Int32) (rm : Room) (hrm : rm.cells = 1 ∧ rm.slots = 6 ∧ rm.frames ≤ 8 ∧ rm.locals ≤ 139) (hM : q_CX l yX5_find [Cond.code yX5_find cX5_find 5 (some .int)] rm D cA (.ref (ad 70) :: [.int p0, .int p1, .int p2]) (rlW cA ad g z) "java/lang/IllegalArgumentException" (rlW cA ad g2 z2)) : q_CL l yL_find [Cond.codeWith yL_find cL_find 6 (some .int) [(0, 12, 15, 13), (0, 12, 19, 15), (0, 12, 23, 17)]] rm_L D cA cL [.ref (ad 70), .int p0, .int p1, .int p2, .ref o] ((o, .inl (cL, 1, .inr (.inl f))) :: rlW cA ad g z) (nI 2) ((o, .inl (cL, 1, .inr (.inl f))) :: rlW cA ad g2 z2) := by
  refine q_startL RL (by decide +kernel) rfl (Nat.le_of_ble_eq_true rfl) ?_
  intro p e s m below meth c A args H locs ls hx hb hr hml hown hT hlk hP hK hD hA hS hl htb hX hN hZ
  have hl : lv_has ls 6 [(0, .ref (ad 70)), (1, .int p0), (2, .int p1), (3, .int p2), (4, .ref o)] := hl
  refine lv_aload hx hb dL_find_0 (lv_at hl 4 rfl) ?_
  refine lv_iconst (v := nI 0) hx hb dL_find_2 (by decide +kernel) ?_
  refine lv_aload_n hx hb dL_find_3 rfl (lv_at hl 0 rfl) ?_
  refine lv_iload_n hx hb dL_find_4 rfl (lv_at hl 1 rfl) ?_
  refine lv_iload_n hx hb dL_find_5 rfl (lv_at hl 2 rfl) ?_
  refine lv_iload_n hx hb dL_find_6 rfl (lv_at hl 3 rfl) ?_
  refine q_callXC (As := [.int p0, .int p1, .int p2]) (w1 := rlW cA ad g2 z2) (name := "java/lang/IllegalArgumentException") hx hb hml hown hT (q_kint hK) hP hD hS hA  hX hZ hM k_X5_find kl_L_31 (q0 := 0) rfl rfl rfl [(o, .inl (cL, 1, .inr (.inl f)))] [] wp_1 wp_1.symm ((rlW_adr _ _ _ _).trans (rlW_adr _ _ _ _).symm) hl rfl rfl (Nat.le_of_ble_eq_true rfl) ⟨⟨hrm.1, hrm.2.1⟩, (by show rm.frames + 1 ≤ 9; omega), (by show 8 + (5 + 11) + rm.locals ≤ 180; omega)⟩ ⟨Nat.le_of_ble_eq_true rfl, Nat.le_of_ble_eq_true rfl⟩ dL_find_7 [⟨0, 12, 15, 13⟩] ⟨0, 12, 19, 15⟩ [⟨0, 12, 23, 17⟩] htb (fun z hz => Or.inr (by rw [List.mem_singleton.mp hz]; exact ⟨by decide, _, hT.use kx_L_13 args, hN.1⟩)) (by decide) (by decide) kx_L_15 q_cast_iae (fun q9 H locs hP hD hS => ?_)
  refine lv_astore (lv' := [(5, .ref q9), (0, .ref (ad 70)), (1, .int p0), (2, .int p1), (3, .int p2), (4, .ref o)]) hx hb dL_find_19 hl (by decide) rfl (fun ls hl => ?_)
  refine lv_iconst (v := nI 2) hx hb dL_find_21 (by decide +kernel) ?_
  exact q_lret hx hb hr hlk rfl hP hS (by decide) (by decide) dL_find_22
set_option maxRecDepth 100000 in
set_option maxHeartbeats 4000000 in
theorem wx_find_ise (l : Launch) (D : va_G) (cA cL : ClassId) (ad : Nat → Nat) (g g2 : Nat → Nat → Int32) (z z2 : Nat → Nat) (o : Nat) (f : Nat → Int64) (p0 : Int32) (p1 : Int32) (p2 : Int32) (rm : Room) (hrm : rm.cells = 1 ∧ rm.slots = 6 ∧ rm.frames ≤ 8 ∧ rm.locals ≤ 139) (hM : q_CX l yX5_find [Cond.code yX5_find cX5_find 5 (some .int)] rm D cA (.ref (ad 70) :: [.int p0, .int p1, .int p2]) (rlW cA ad g z) "java/lang/IllegalStateException" (rlW cA ad g2 z2)) : q_CL l yL_find [Cond.codeWith yL_find cL_find 6 (some .int) [(0, 12, 15, 13), (0, 12, 19, 15), (0, 12, 23, 17)]] rm_L D cA cL [.ref (ad 70), .int p0, .int p1, .int p2, .ref o] ((o, .inl (cL, 1, .inr (.inl f))) :: rlW cA ad g z) (nI 3) ((o, .inl (cL, 1, .inr (.inl f))) :: rlW cA ad g2 z2) := by
  refine q_startL RL (by decide +kernel) rfl (Nat.le_of_ble_eq_true rfl) ?_
  intro p e s m below meth c A args H locs ls hx hb hr hml hown hT hlk hP hK hD hA hS hl htb hX hN hZ
  have hl : lv_has ls 6 [(0, .ref (ad 70)), (1, .int p0), (2, .int p1), (3, .int p2), (4, .ref o)] := hl
  refine lv_aload hx hb dL_find_0 (lv_at hl 4 rfl) ?_
  refine lv_iconst (v := nI 0) hx hb dL_find_2 (by decide +kernel) ?_
  refine lv_aload_n hx hb dL_find_3 rfl (lv_at hl 0 rfl) ?_
  refine lv_iload_n hx hb dL_find_4 rfl (lv_at hl 1 rfl) ?_
  refine lv_iload_n hx hb dL_find_5 rfl (lv_at hl 2 rfl) ?_
  refine lv_iload_n hx hb dL_find_6 rfl (lv_at hl 3 rfl) ?_
  refine q_callXC (As := [.int p0, .int p1, .int p2]) (w1 := rlW cA ad g2 z2) (name := "java/lang/IllegalStateException") hx hb hml hown hT (q_kint hK) hP hD hS hA  hX hZ hM k_X5_find kl_L_31 (q0 := 0) rfl rfl rfl [(o, .inl (cL, 1, .inr (.inl f)))] [] wp_1 wp_1.symm ((rlW_adr _ _ _ _).trans (rlW_adr _ _ _ _).symm) hl rfl rfl (Nat.le_of_ble_eq_true rfl) ⟨⟨hrm.1, hrm.2.1⟩, (by show rm.frames + 1 ≤ 9; omega), (by show 8 + (5 + 11) + rm.locals ≤ 180; omega)⟩ ⟨Nat.le_of_ble_eq_true rfl, Nat.le_of_ble_eq_true rfl⟩ dL_find_7 [⟨0, 12, 15, 13⟩, ⟨0, 12, 19, 15⟩] ⟨0, 12, 23, 17⟩ [] htb (fun z hz => Or.inr (by rcases List.mem_cons.mp hz with h9 | h9; (rw [h9]; exact ⟨by decide, _, hT.use kx_L_13 args, hN.2.1⟩); (rw [List.mem_singleton.mp h9]; exact ⟨by decide, _, hT.use kx_L_15 args, hN.2.2⟩))) (by decide) (by decide) kx_L_17 q_cast_ise (fun q9 H locs hP hD hS => ?_)
  refine lv_astore (lv' := [(5, .ref q9), (0, .ref (ad 70)), (1, .int p0), (2, .int p1), (3, .int p2), (4, .ref o)]) hx hb dL_find_23 hl (by decide) rfl (fun ls hl => ?_)
  refine lv_iconst (v := nI 3) hx hb dL_find_25 (by decide +kernel) ?_
  exact q_lret hx hb hr hlk rfl hP hS (by decide) (by decide) dL_find_26
set_option maxRecDepth 100000 in
set_option maxHeartbeats 4000000 in
theorem wo_wouldMove (l : Launch) (D : va_G) (cA cL : ClassId) (ad : Nat → Nat) (g g2 : Nat → Nat → Int32) (z z2 : Nat → Nat) (o : Nat) (f : Nat → Int64) (p0 : Int32) (p1 : Int32) (p2 : Int32) (rm : Room) (r : Int32) (hrm : rm.cells = 0 ∧ rm.slots = 0 ∧ rm.frames ≤ 8 ∧ rm.locals ≤ 139) (hM : q_CI l yX5_wouldMove [Cond.code yX5_wouldMove cX5_wouldMove 4 (some .int)] rm D cA (.ref (ad 70) :: [.int p0, .int p1, .int p2]) (rlW cA ad g z) r (rlW cA ad g2 z2)) : q_CL l yL_wouldMove [Cond.codeWith yL_wouldMove cL_wouldMove 6 (some .int) [(0, 12, 15, 13), (0, 12, 19, 15)]] rm_L D cA cL [.ref (ad 70), .int p0, .int p1, .int p2, .ref o] ((o, .inl (cL, 1, .inr (.inl f))) :: rlW cA ad g z) (nI 0) ((o, .inl (cL, 1, .inr (.inl (vp_updL f 0 r.toInt64)))) :: rlW cA ad g2 z2) := by
  refine q_startL RL (by decide +kernel) rfl (Nat.le_of_ble_eq_true rfl) ?_
  intro p e s m below meth c A args H locs ls hx hb hr hml hown hT hlk hP hK hD hA hS hl htb hX hN hZ
  have hl : lv_has ls 6 [(0, .ref (ad 70)), (1, .int p0), (2, .int p1), (3, .int p2), (4, .ref o)] := hl
  refine lv_aload hx hb dL_wouldMove_0 (lv_at hl 4 rfl) ?_
  refine lv_iconst (v := nI 0) hx hb dL_wouldMove_2 (by decide +kernel) ?_
  refine lv_aload_n hx hb dL_wouldMove_3 rfl (lv_at hl 0 rfl) ?_
  refine lv_iload_n hx hb dL_wouldMove_4 rfl (lv_at hl 1 rfl) ?_
  refine lv_iload_n hx hb dL_wouldMove_5 rfl (lv_at hl 2 rfl) ?_
  refine lv_iload_n hx hb dL_wouldMove_6 rfl (lv_at hl 3 rfl) ?_
  refine q_callIS (As := [.int p0, .int p1, .int p2]) (r := r) (w1 := rlW cA ad g2 z2) hx hb hml hown hT (q_kint hK) hP hD hS hA  hM k_X5_wouldMove kl_L_34 (q0 := 0) rfl rfl rfl [(o, .inl (cL, 1, .inr (.inl f)))] [] wp_1 wp_1.symm ((rlW_adr _ _ _ _).trans (rlW_adr _ _ _ _).symm) hl rfl rfl (Nat.le_of_ble_eq_true rfl) ⟨⟨hrm.1, hrm.2.1⟩, (by show rm.frames + 1 ≤ 9; omega), (by show 8 + (4 + 11) + rm.locals ≤ 180; omega)⟩ ⟨Nat.zero_le _, Nat.zero_le _⟩ dL_wouldMove_7 (fun H locs hP hD hS => ?_)
  refine lv_i2l (v := r.toInt64) hx hb dL_wouldMove_10 rfl ?_
  refine q_last (x := r.toInt64) (ws1 := (o, .inl (cL, 1, .inr (.inl (vp_updL f 0 r.toInt64)))) :: rlW cA ad g2 z2) hx hb hK hP hD hS 0 rfl rfl rfl dL_wouldMove_11 (fun H locs hP hD hS => ?_)
  refine lv_goto (tgt := 23) hx hb dL_wouldMove_12 (by decide) ?_
  refine lv_iconst (v := nI 0) hx hb dL_wouldMove_23 (by decide +kernel) ?_
  exact q_lret hx hb hr hlk rfl hP hS (by decide) (by decide) dL_wouldMove_24
set_option maxRecDepth 100000 in
set_option maxHeartbeats 4000000 in
theorem wx_wouldMove_iob (l : Launch) (D : va_G) (cA cL : ClassId) (ad : Nat → Nat) (g g2 : Nat → Nat → Int32) (z z2 : Nat → Nat) (o : Nat) (f : Nat → Int64) (p0 : Int32) (p1 : Int32) (p2 : Int32) (rm : Room) (hrm : rm.cells = 1 ∧ rm.slots = 6 ∧ rm.frames ≤ 8 ∧ rm.locals ≤ 139) (hM : q_CX l yX5_wouldMove [Cond.code yX5_wouldMove cX5_wouldMove 4 (some .int)] rm D cA (.ref (ad 70) :: [.int p0, .int p1, .int p2]) (rlW cA ad g z) "java/lang/IndexOutOfBoundsException" (rlW cA ad g2 z2)) : q_CL l yL_wouldMove [Cond.codeWith yL_wouldMove cL_wouldMove 6 (some .int) [(0, 12, 15, 13), (0, 12, 19, 15)]] rm_L D cA cL [.ref (ad 70), .int p0, .int p1, .int p2, .ref o] ((o, .inl (cL, 1, .inr (.inl f))) :: rlW cA ad g z) (nI 1) ((o, .inl (cL, 1, .inr (.inl f))) :: rlW cA ad g2 z2) := by
  refine q_startL RL (by decide +kernel) rfl (Nat.le_of_ble_eq_true rfl) ?_
  intro p e s m below meth c A args H locs ls hx hb hr hml hown hT hlk hP hK hD hA hS hl htb hX hN hZ
  have hl : lv_has ls 6 [(0, .ref (ad 70)), (1, .int p0), (2, .int p1), (3, .int p2), (4, .ref o)] := hl
  refine lv_aload hx hb dL_wouldMove_0 (lv_at hl 4 rfl) ?_
  refine lv_iconst (v := nI 0) hx hb dL_wouldMove_2 (by decide +kernel) ?_
  refine lv_aload_n hx hb dL_wouldMove_3 rfl (lv_at hl 0 rfl) ?_
  refine lv_iload_n hx hb dL_wouldMove_4 rfl (lv_at hl 1 rfl) ?_
  refine lv_iload_n hx hb dL_wouldMove_5 rfl (lv_at hl 2 rfl) ?_
  refine lv_iload_n hx hb dL_wouldMove_6 rfl (lv_at hl 3 rfl) ?_
  refine q_callXC (As := [.int p0, .int p1, .int p2]) (w1 := rlW cA ad g2 z2) (name := "java/lang/IndexOutOfBoundsException") hx hb hml hown hT (q_kint hK) hP hD hS hA  hX hZ hM k_X5_wouldMove kl_L_34 (q0 := 0) rfl rfl rfl [(o, .inl (cL, 1, .inr (.inl f)))] [] wp_1 wp_1.symm ((rlW_adr _ _ _ _).trans (rlW_adr _ _ _ _).symm) hl rfl rfl (Nat.le_of_ble_eq_true rfl) ⟨⟨hrm.1, hrm.2.1⟩, (by show rm.frames + 1 ≤ 9; omega), (by show 8 + (4 + 11) + rm.locals ≤ 180; omega)⟩ ⟨Nat.le_of_ble_eq_true rfl, Nat.le_of_ble_eq_true rfl⟩ dL_wouldMove_7 [] ⟨0, 12, 15, 13⟩ [⟨0, 12, 19, 15⟩] htb (fun z hz => absurd hz List.not_mem_nil) (by decide) (by decide) kx_L_13 q_cast_iob (fun q9 H locs hP hD hS => ?_)
  refine lv_astore (lv' := [(5, .ref q9), (0, .ref (ad 70)), (1, .int p0), (2, .int p1), (3, .int p2), (4, .ref o)]) hx hb dL_wouldMove_15 hl (by decide) rfl (fun ls hl => ?_)
  refine lv_iconst (v := nI 1) hx hb dL_wouldMove_17 (by decide +kernel) ?_
  exact q_lret hx hb hr hlk rfl hP hS (by decide) (by decide) dL_wouldMove_18
set_option maxRecDepth 100000 in
set_option maxHeartbeats 4000000 in
theorem wx_wouldMove_iae (l : Launch) (D : va_G) (cA cL : ClassId) (ad : Nat → Nat) (g g2 : Nat → Nat → Int32) (z z2 : Nat → Nat) (o : Nat) (f : Nat → Int64) (p0 : Int32) (p1 : Int32) (p2 : Int32) (rm : Room) (hrm : rm.cells = 1 ∧ rm.slots = 6 ∧ rm.frames ≤ 8 ∧ rm.locals ≤ 139) (hM : q_CX l yX5_wouldMove [Cond.code yX5_wouldMove cX5_wouldMove 4 (some .int)] rm D cA (.ref (ad 70) :: [.int p0, .int p1, .int p2]) (rlW cA ad g z) "java/lang/IllegalArgumentException" (rlW cA ad g2 z2)) : q_CL l yL_wouldMove [Cond.codeWith yL_wouldMove cL_wouldMove 6 (some .int) [(0, 12, 15, 13), (0, 12, 19, 15)]] rm_L D cA cL [.ref (ad 70), .int p0, .int p1, .int p2, .ref o] ((o, .inl (cL, 1, .inr (.inl f))) :: rlW cA ad g z) (nI 2) ((o, .inl (cL, 1, .inr (.inl f))) :: rlW cA ad g2 z2) := by
  refine q_startL RL (by decide +kernel) rfl (Nat.le_of_ble_eq_true rfl) ?_
  intro p e s m below meth c A args H locs ls hx hb hr hml hown hT hlk hP hK hD hA hS hl htb hX hN hZ
  have hl : lv_has ls 6 [(0, .ref (ad 70)), (1, .int p0), (2, .int p1), (3, .int p2), (4, .ref o)] := hl
  refine lv_aload hx hb dL_wouldMove_0 (lv_at hl 4 rfl) ?_
  refine lv_iconst (v := nI 0) hx hb dL_wouldMove_2 (by decide +kernel) ?_
  refine lv_aload_n hx hb dL_wouldMove_3 rfl (lv_at hl 0 rfl) ?_
  refine lv_iload_n hx hb dL_wouldMove_4 rfl (lv_at hl 1 rfl) ?_
  refine lv_iload_n hx hb dL_wouldMove_5 rfl (lv_at hl 2 rfl) ?_
  refine lv_iload_n hx hb dL_wouldMove_6 rfl (lv_at hl 3 rfl) ?_
  refine q_callXC (As := [.int p0, .int p1, .int p2]) (w1 := rlW cA ad g2 z2) (name := "java/lang/IllegalArgumentException") hx hb hml hown hT (q_kint hK) hP hD hS hA  hX hZ hM k_X5_wouldMove kl_L_34 (q0 := 0) rfl rfl rfl [(o, .inl (cL, 1, .inr (.inl f)))] [] wp_1 wp_1.symm ((rlW_adr _ _ _ _).trans (rlW_adr _ _ _ _).symm) hl rfl rfl (Nat.le_of_ble_eq_true rfl) ⟨⟨hrm.1, hrm.2.1⟩, (by show rm.frames + 1 ≤ 9; omega), (by show 8 + (4 + 11) + rm.locals ≤ 180; omega)⟩ ⟨Nat.le_of_ble_eq_true rfl, Nat.le_of_ble_eq_true rfl⟩ dL_wouldMove_7 [⟨0, 12, 15, 13⟩] ⟨0, 12, 19, 15⟩ [] htb (fun z hz => Or.inr (by rw [List.mem_singleton.mp hz]; exact ⟨by decide, _, hT.use kx_L_13 args, hN.1⟩)) (by decide) (by decide) kx_L_15 q_cast_iae (fun q9 H locs hP hD hS => ?_)
  refine lv_astore (lv' := [(5, .ref q9), (0, .ref (ad 70)), (1, .int p0), (2, .int p1), (3, .int p2), (4, .ref o)]) hx hb dL_wouldMove_19 hl (by decide) rfl (fun ls hl => ?_)
  refine lv_iconst (v := nI 2) hx hb dL_wouldMove_21 (by decide +kernel) ?_
  exact q_lret hx hb hr hlk rfl hP hS (by decide) (by decide) dL_wouldMove_22
set_option maxRecDepth 100000 in
set_option maxHeartbeats 4000000 in
theorem wo_year (l : Launch) (D : va_G) (cA cL : ClassId) (ad : Nat → Nat) (g g2 : Nat → Nat → Int32) (z z2 : Nat → Nat) (o : Nat) (f : Nat → Int64) (p0 : Int32) (p1 : Int32) (rm : Room) (r : Int32) (hrm : rm.cells = 0 ∧ rm.slots = 0 ∧ rm.frames ≤ 8 ∧ rm.locals ≤ 139) (hM : q_CI l yX5_year [Cond.code yX5_year cX5_year 3 (some .int)] rm D cA (.ref (ad 70) :: [.int p0, .int p1]) (rlW cA ad g z) r (rlW cA ad g2 z2)) : q_CL l yL_year [Cond.codeWith yL_year cL_year 5 (some .int) [(0, 10, 13, 13)]] rm_L D cA cL [.ref (ad 70), .int p0, .int p1, .ref o] ((o, .inl (cL, 1, .inr (.inl f))) :: rlW cA ad g z) (nI 0) ((o, .inl (cL, 1, .inr (.inl (vp_updL f 0 r.toInt64)))) :: rlW cA ad g2 z2) := by
  refine q_startL RL (by decide +kernel) rfl (Nat.le_of_ble_eq_true rfl) ?_
  intro p e s m below meth c A args H locs ls hx hb hr hml hown hT hlk hP hK hD hA hS hl htb hX hN hZ
  have hl : lv_has ls 5 [(0, .ref (ad 70)), (1, .int p0), (2, .int p1), (3, .ref o)] := hl
  refine lv_aload_n hx hb dL_year_0 rfl (lv_at hl 3 rfl) ?_
  refine lv_iconst (v := nI 0) hx hb dL_year_1 (by decide +kernel) ?_
  refine lv_aload_n hx hb dL_year_2 rfl (lv_at hl 0 rfl) ?_
  refine lv_iload_n hx hb dL_year_3 rfl (lv_at hl 1 rfl) ?_
  refine lv_iload_n hx hb dL_year_4 rfl (lv_at hl 2 rfl) ?_
  refine q_callIS (As := [.int p0, .int p1]) (r := r) (w1 := rlW cA ad g2 z2) hx hb hml hown hT (q_kint hK) hP hD hS hA  hM k_X5_year kl_L_37 (q0 := 0) rfl rfl rfl [(o, .inl (cL, 1, .inr (.inl f)))] [] wp_1 wp_1.symm ((rlW_adr _ _ _ _).trans (rlW_adr _ _ _ _).symm) hl rfl rfl (Nat.le_of_ble_eq_true rfl) ⟨⟨hrm.1, hrm.2.1⟩, (by show rm.frames + 1 ≤ 9; omega), (by show 8 + (3 + 11) + rm.locals ≤ 180; omega)⟩ ⟨Nat.zero_le _, Nat.zero_le _⟩ dL_year_5 (fun H locs hP hD hS => ?_)
  refine lv_i2l (v := r.toInt64) hx hb dL_year_8 rfl ?_
  refine q_last (x := r.toInt64) (ws1 := (o, .inl (cL, 1, .inr (.inl (vp_updL f 0 r.toInt64)))) :: rlW cA ad g2 z2) hx hb hK hP hD hS 0 rfl rfl rfl dL_year_9 (fun H locs hP hD hS => ?_)
  refine lv_goto (tgt := 17) hx hb dL_year_10 (by decide) ?_
  refine lv_iconst (v := nI 0) hx hb dL_year_17 (by decide +kernel) ?_
  exact q_lret hx hb hr hlk rfl hP hS (by decide) (by decide) dL_year_18
set_option maxRecDepth 100000 in
set_option maxHeartbeats 4000000 in
theorem wx_year_iob (l : Launch) (D : va_G) (cA cL : ClassId) (ad : Nat → Nat) (g g2 : Nat → Nat → Int32) (z z2 : Nat → Nat) (o : Nat) (f : Nat → Int64) (p0 : Int32) (p1 : Int32) (rm : Room) (hrm : rm.cells = 1 ∧ rm.slots = 6 ∧ rm.frames ≤ 8 ∧ rm.locals ≤ 139) (hM : q_CX l yX5_year [Cond.code yX5_year cX5_year 3 (some .int)] rm D cA (.ref (ad 70) :: [.int p0, .int p1]) (rlW cA ad g z) "java/lang/IndexOutOfBoundsException" (rlW cA ad g2 z2)) : q_CL l yL_year [Cond.codeWith yL_year cL_year 5 (some .int) [(0, 10, 13, 13)]] rm_L D cA cL [.ref (ad 70), .int p0, .int p1, .ref o] ((o, .inl (cL, 1, .inr (.inl f))) :: rlW cA ad g z) (nI 1) ((o, .inl (cL, 1, .inr (.inl f))) :: rlW cA ad g2 z2) := by
  refine q_startL RL (by decide +kernel) rfl (Nat.le_of_ble_eq_true rfl) ?_
  intro p e s m below meth c A args H locs ls hx hb hr hml hown hT hlk hP hK hD hA hS hl htb hX hN hZ
  have hl : lv_has ls 5 [(0, .ref (ad 70)), (1, .int p0), (2, .int p1), (3, .ref o)] := hl
  refine lv_aload_n hx hb dL_year_0 rfl (lv_at hl 3 rfl) ?_
  refine lv_iconst (v := nI 0) hx hb dL_year_1 (by decide +kernel) ?_
  refine lv_aload_n hx hb dL_year_2 rfl (lv_at hl 0 rfl) ?_
  refine lv_iload_n hx hb dL_year_3 rfl (lv_at hl 1 rfl) ?_
  refine lv_iload_n hx hb dL_year_4 rfl (lv_at hl 2 rfl) ?_
  refine q_callXC (As := [.int p0, .int p1]) (w1 := rlW cA ad g2 z2) (name := "java/lang/IndexOutOfBoundsException") hx hb hml hown hT (q_kint hK) hP hD hS hA  hX hZ hM k_X5_year kl_L_37 (q0 := 0) rfl rfl rfl [(o, .inl (cL, 1, .inr (.inl f)))] [] wp_1 wp_1.symm ((rlW_adr _ _ _ _).trans (rlW_adr _ _ _ _).symm) hl rfl rfl (Nat.le_of_ble_eq_true rfl) ⟨⟨hrm.1, hrm.2.1⟩, (by show rm.frames + 1 ≤ 9; omega), (by show 8 + (3 + 11) + rm.locals ≤ 180; omega)⟩ ⟨Nat.le_of_ble_eq_true rfl, Nat.le_of_ble_eq_true rfl⟩ dL_year_5 [] ⟨0, 10, 13, 13⟩ [] htb (fun z hz => absurd hz List.not_mem_nil) (by decide) (by decide) kx_L_13 q_cast_iob (fun q9 H locs hP hD hS => ?_)
  refine lv_astore (lv' := [(4, .ref q9), (0, .ref (ad 70)), (1, .int p0), (2, .int p1), (3, .ref o)]) hx hb dL_year_13 hl (by decide) rfl (fun ls hl => ?_)
  refine lv_iconst (v := nI 1) hx hb dL_year_15 (by decide +kernel) ?_
  exact q_lret hx hb hr hlk rfl hP hS (by decide) (by decide) dL_year_16
set_option maxRecDepth 100000 in
set_option maxHeartbeats 4000000 in
theorem wo_yearAnew (l : Launch) (D : va_G) (cA cL : ClassId) (ad : Nat → Nat) (g g2 : Nat → Nat → Int32) (z z2 : Nat → Nat) (o : Nat) (f : Nat → Int64) (p0 : Int32) (p1 : Int32) (rm : Room) (r : Int32) (hrm : rm.cells = 0 ∧ rm.slots = 0 ∧ rm.frames ≤ 8 ∧ rm.locals ≤ 139) (hM : q_CI l yX5_yearAnew [Cond.code yX5_yearAnew cX5_yearAnew 3 (some .int)] rm D cA (.ref (ad 70) :: [.int p0, .int p1]) (rlW cA ad g z) r (rlW cA ad g2 z2)) : q_CL l yL_yearAnew [Cond.codeWith yL_yearAnew cL_yearAnew 5 (some .int) [(0, 10, 13, 13)]] rm_L D cA cL [.ref (ad 70), .int p0, .int p1, .ref o] ((o, .inl (cL, 1, .inr (.inl f))) :: rlW cA ad g z) (nI 0) ((o, .inl (cL, 1, .inr (.inl (vp_updL f 0 r.toInt64)))) :: rlW cA ad g2 z2) := by
  refine q_startL RL (by decide +kernel) rfl (Nat.le_of_ble_eq_true rfl) ?_
  intro p e s m below meth c A args H locs ls hx hb hr hml hown hT hlk hP hK hD hA hS hl htb hX hN hZ
  have hl : lv_has ls 5 [(0, .ref (ad 70)), (1, .int p0), (2, .int p1), (3, .ref o)] := hl
  refine lv_aload_n hx hb dL_yearAnew_0 rfl (lv_at hl 3 rfl) ?_
  refine lv_iconst (v := nI 0) hx hb dL_yearAnew_1 (by decide +kernel) ?_
  refine lv_aload_n hx hb dL_yearAnew_2 rfl (lv_at hl 0 rfl) ?_
  refine lv_iload_n hx hb dL_yearAnew_3 rfl (lv_at hl 1 rfl) ?_
  refine lv_iload_n hx hb dL_yearAnew_4 rfl (lv_at hl 2 rfl) ?_
  refine q_callIS (As := [.int p0, .int p1]) (r := r) (w1 := rlW cA ad g2 z2) hx hb hml hown hT (q_kint hK) hP hD hS hA  hM k_X5_yearAnew kl_L_41 (q0 := 0) rfl rfl rfl [(o, .inl (cL, 1, .inr (.inl f)))] [] wp_1 wp_1.symm ((rlW_adr _ _ _ _).trans (rlW_adr _ _ _ _).symm) hl rfl rfl (Nat.le_of_ble_eq_true rfl) ⟨⟨hrm.1, hrm.2.1⟩, (by show rm.frames + 1 ≤ 9; omega), (by show 8 + (3 + 11) + rm.locals ≤ 180; omega)⟩ ⟨Nat.zero_le _, Nat.zero_le _⟩ dL_yearAnew_5 (fun H locs hP hD hS => ?_)
  refine lv_i2l (v := r.toInt64) hx hb dL_yearAnew_8 rfl ?_
  refine q_last (x := r.toInt64) (ws1 := (o, .inl (cL, 1, .inr (.inl (vp_updL f 0 r.toInt64)))) :: rlW cA ad g2 z2) hx hb hK hP hD hS 0 rfl rfl rfl dL_yearAnew_9 (fun H locs hP hD hS => ?_)
  refine lv_goto (tgt := 17) hx hb dL_yearAnew_10 (by decide) ?_
  refine lv_iconst (v := nI 0) hx hb dL_yearAnew_17 (by decide +kernel) ?_
  exact q_lret hx hb hr hlk rfl hP hS (by decide) (by decide) dL_yearAnew_18
set_option maxRecDepth 100000 in
set_option maxHeartbeats 4000000 in
theorem wx_yearAnew_iob (l : Launch) (D : va_G) (cA cL : ClassId) (ad : Nat → Nat) (g g2 : Nat → Nat → Int32) (z z2 : Nat → Nat) (o : Nat) (f : Nat → Int64) (p0 : Int32) (p1 : Int32) (rm : Room) (hrm : rm.cells = 1 ∧ rm.slots = 6 ∧ rm.frames ≤ 8 ∧ rm.locals ≤ 139) (hM : q_CX l yX5_yearAnew [Cond.code yX5_yearAnew cX5_yearAnew 3 (some .int)] rm D cA (.ref (ad 70) :: [.int p0, .int p1]) (rlW cA ad g z) "java/lang/IndexOutOfBoundsException" (rlW cA ad g2 z2)) : q_CL l yL_yearAnew [Cond.codeWith yL_yearAnew cL_yearAnew 5 (some .int) [(0, 10, 13, 13)]] rm_L D cA cL [.ref (ad 70), .int p0, .int p1, .ref o] ((o, .inl (cL, 1, .inr (.inl f))) :: rlW cA ad g z) (nI 1) ((o, .inl (cL, 1, .inr (.inl f))) :: rlW cA ad g2 z2) := by
  refine q_startL RL (by decide +kernel) rfl (Nat.le_of_ble_eq_true rfl) ?_
  intro p e s m below meth c A args H locs ls hx hb hr hml hown hT hlk hP hK hD hA hS hl htb hX hN hZ
  have hl : lv_has ls 5 [(0, .ref (ad 70)), (1, .int p0), (2, .int p1), (3, .ref o)] := hl
  refine lv_aload_n hx hb dL_yearAnew_0 rfl (lv_at hl 3 rfl) ?_
  refine lv_iconst (v := nI 0) hx hb dL_yearAnew_1 (by decide +kernel) ?_
  refine lv_aload_n hx hb dL_yearAnew_2 rfl (lv_at hl 0 rfl) ?_
  refine lv_iload_n hx hb dL_yearAnew_3 rfl (lv_at hl 1 rfl) ?_
  refine lv_iload_n hx hb dL_yearAnew_4 rfl (lv_at hl 2 rfl) ?_
  refine q_callXC (As := [.int p0, .int p1]) (w1 := rlW cA ad g2 z2) (name := "java/lang/IndexOutOfBoundsException") hx hb hml hown hT (q_kint hK) hP hD hS hA  hX hZ hM k_X5_yearAnew kl_L_41 (q0 := 0) rfl rfl rfl [(o, .inl (cL, 1, .inr (.inl f)))] [] wp_1 wp_1.symm ((rlW_adr _ _ _ _).trans (rlW_adr _ _ _ _).symm) hl rfl rfl (Nat.le_of_ble_eq_true rfl) ⟨⟨hrm.1, hrm.2.1⟩, (by show rm.frames + 1 ≤ 9; omega), (by show 8 + (3 + 11) + rm.locals ≤ 180; omega)⟩ ⟨Nat.le_of_ble_eq_true rfl, Nat.le_of_ble_eq_true rfl⟩ dL_yearAnew_5 [] ⟨0, 10, 13, 13⟩ [] htb (fun z hz => absurd hz List.not_mem_nil) (by decide) (by decide) kx_L_13 q_cast_iob (fun q9 H locs hP hD hS => ?_)
  refine lv_astore (lv' := [(4, .ref q9), (0, .ref (ad 70)), (1, .int p0), (2, .int p1), (3, .ref o)]) hx hb dL_yearAnew_13 hl (by decide) rfl (fun ls hl => ?_)
  refine lv_iconst (v := nI 1) hx hb dL_yearAnew_15 (by decide +kernel) ?_
  exact q_lret hx hb hr hlk rfl hP hS (by decide) (by decide) dL_yearAnew_16
set_option maxRecDepth 100000 in
set_option maxHeartbeats 4000000 in
theorem wo_seal (l : Launch) (D : va_G) (cA cL : ClassId) (ad : Nat → Nat) (g g2 : Nat → Nat → Int32) (z z2 : Nat → Nat) (o : Nat) (f : Nat → Int64) (p0 : Int32) (p1 : Int32) (rm : Room) (bb : Bool) (hrm : rm.cells = 0 ∧ rm.slots = 0 ∧ rm.frames ≤ 8 ∧ rm.locals ≤ 139) (hM : q_CI l yX5_seal [Cond.code yX5_seal cX5_seal 3 (some .boolean)] rm D cA (.ref (ad 70) :: [.int p0, .int p1]) (rlW cA ad g z) (q_b bb) (rlW cA ad g2 z2)) : q_CL l yL_seal [Cond.codeWith yL_seal cL_seal 5 (some .int) [(0, 17, 20, 13), (0, 17, 24, 15)]] rm_L D cA cL [.ref (ad 70), .int p0, .int p1, .ref o] ((o, .inl (cL, 1, .inr (.inl f))) :: rlW cA ad g z) (nI 0) ((o, .inl (cL, 1, .inr (.inl (vp_updL f 0 (q_L bb))))) :: rlW cA ad g2 z2) := by
  refine q_startL RL (by decide +kernel) rfl (Nat.le_of_ble_eq_true rfl) ?_
  intro p e s m below meth c A args H locs ls hx hb hr hml hown hT hlk hP hK hD hA hS hl htb hX hN hZ
  have hl : lv_has ls 5 [(0, .ref (ad 70)), (1, .int p0), (2, .int p1), (3, .ref o)] := hl
  refine lv_aload_n hx hb dL_seal_0 rfl (lv_at hl 3 rfl) ?_
  refine lv_iconst (v := nI 0) hx hb dL_seal_1 (by decide +kernel) ?_
  refine lv_aload_n hx hb dL_seal_2 rfl (lv_at hl 0 rfl) ?_
  refine lv_iload_n hx hb dL_seal_3 rfl (lv_at hl 1 rfl) ?_
  refine lv_iload_n hx hb dL_seal_4 rfl (lv_at hl 2 rfl) ?_
  refine q_callIS (As := [.int p0, .int p1]) (r := (q_b bb)) (w1 := rlW cA ad g2 z2) hx hb hml hown hT (q_kint hK) hP hD hS hA  hM k_X5_seal kl_L_44 (q0 := 0) rfl rfl rfl [(o, .inl (cL, 1, .inr (.inl f)))] [] wp_1 wp_1.symm ((rlW_adr _ _ _ _).trans (rlW_adr _ _ _ _).symm) hl rfl rfl (Nat.le_of_ble_eq_true rfl) ⟨⟨hrm.1, hrm.2.1⟩, (by show rm.frames + 1 ≤ 9; omega), (by show 8 + (3 + 11) + rm.locals ≤ 180; omega)⟩ ⟨Nat.zero_le _, Nat.zero_le _⟩ dL_seal_5 (fun H locs hP hD hS => ?_)
  refine lv_if_eq (tgt := 15) hx hb dL_seal_8 (by decide) (fun c9 => ?_) (fun c9 => ?_)
  · have c9 := q_b0e c9
    subst c9
    refine lv_lconst (v := q_L false) hx hb dL_seal_15 (by decide +kernel) ?_
    refine q_last (x := q_L false) (ws1 := (o, .inl (cL, 1, .inr (.inl (vp_updL f 0 (q_L false))))) :: rlW cA ad g2 z2) hx hb hK hP hD hS 0 rfl rfl rfl dL_seal_16 (fun H locs hP hD hS => ?_)
    refine lv_goto (tgt := 28) hx hb dL_seal_17 (by decide) ?_
    refine lv_iconst (v := nI 0) hx hb dL_seal_28 (by decide +kernel) ?_
    exact q_lret hx hb hr hlk rfl hP hS (by decide) (by decide) dL_seal_29
  · have c9 := q_b0n c9
    subst c9
    refine lv_lconst (v := q_L true) hx hb dL_seal_11 (by decide +kernel) ?_
    refine lv_goto (tgt := 16) hx hb dL_seal_12 (by decide) ?_
    refine q_last (x := q_L true) (ws1 := (o, .inl (cL, 1, .inr (.inl (vp_updL f 0 (q_L true))))) :: rlW cA ad g2 z2) hx hb hK hP hD hS 0 rfl rfl rfl dL_seal_16 (fun H locs hP hD hS => ?_)
    refine lv_goto (tgt := 28) hx hb dL_seal_17 (by decide) ?_
    refine lv_iconst (v := nI 0) hx hb dL_seal_28 (by decide +kernel) ?_
    exact q_lret hx hb hr hlk rfl hP hS (by decide) (by decide) dL_seal_29
set_option maxRecDepth 100000 in
set_option maxHeartbeats 4000000 in
theorem wx_seal_iob (l : Launch) (D : va_G) (cA cL : ClassId) (ad : Nat → Nat) (g g2 : Nat → Nat → Int32) (z z2 : Nat → Nat) (o : Nat) (f : Nat → Int64) (p0 : Int32) (p1 : Int32) (rm : Room) (hrm : rm.cells = 1 ∧ rm.slots = 6 ∧ rm.frames ≤ 8 ∧ rm.locals ≤ 139) (hM : q_CX l yX5_seal [Cond.code yX5_seal cX5_seal 3 (some .boolean)] rm D cA (.ref (ad 70) :: [.int p0, .int p1]) (rlW cA ad g z) "java/lang/IndexOutOfBoundsException" (rlW cA ad g2 z2)) : q_CL l yL_seal [Cond.codeWith yL_seal cL_seal 5 (some .int) [(0, 17, 20, 13), (0, 17, 24, 15)]] rm_L D cA cL [.ref (ad 70), .int p0, .int p1, .ref o] ((o, .inl (cL, 1, .inr (.inl f))) :: rlW cA ad g z) (nI 1) ((o, .inl (cL, 1, .inr (.inl f))) :: rlW cA ad g2 z2) := by
  refine q_startL RL (by decide +kernel) rfl (Nat.le_of_ble_eq_true rfl) ?_
  intro p e s m below meth c A args H locs ls hx hb hr hml hown hT hlk hP hK hD hA hS hl htb hX hN hZ
  have hl : lv_has ls 5 [(0, .ref (ad 70)), (1, .int p0), (2, .int p1), (3, .ref o)] := hl
  refine lv_aload_n hx hb dL_seal_0 rfl (lv_at hl 3 rfl) ?_
  refine lv_iconst (v := nI 0) hx hb dL_seal_1 (by decide +kernel) ?_
  refine lv_aload_n hx hb dL_seal_2 rfl (lv_at hl 0 rfl) ?_
  refine lv_iload_n hx hb dL_seal_3 rfl (lv_at hl 1 rfl) ?_
  refine lv_iload_n hx hb dL_seal_4 rfl (lv_at hl 2 rfl) ?_
  refine q_callXC (As := [.int p0, .int p1]) (w1 := rlW cA ad g2 z2) (name := "java/lang/IndexOutOfBoundsException") hx hb hml hown hT (q_kint hK) hP hD hS hA  hX hZ hM k_X5_seal kl_L_44 (q0 := 0) rfl rfl rfl [(o, .inl (cL, 1, .inr (.inl f)))] [] wp_1 wp_1.symm ((rlW_adr _ _ _ _).trans (rlW_adr _ _ _ _).symm) hl rfl rfl (Nat.le_of_ble_eq_true rfl) ⟨⟨hrm.1, hrm.2.1⟩, (by show rm.frames + 1 ≤ 9; omega), (by show 8 + (3 + 11) + rm.locals ≤ 180; omega)⟩ ⟨Nat.le_of_ble_eq_true rfl, Nat.le_of_ble_eq_true rfl⟩ dL_seal_5 [] ⟨0, 17, 20, 13⟩ [⟨0, 17, 24, 15⟩] htb (fun z hz => absurd hz List.not_mem_nil) (by decide) (by decide) kx_L_13 q_cast_iob (fun q9 H locs hP hD hS => ?_)
  refine lv_astore (lv' := [(4, .ref q9), (0, .ref (ad 70)), (1, .int p0), (2, .int p1), (3, .ref o)]) hx hb dL_seal_20 hl (by decide) rfl (fun ls hl => ?_)
  refine lv_iconst (v := nI 1) hx hb dL_seal_22 (by decide +kernel) ?_
  exact q_lret hx hb hr hlk rfl hP hS (by decide) (by decide) dL_seal_23
set_option maxRecDepth 100000 in
set_option maxHeartbeats 4000000 in
theorem wx_seal_iae (l : Launch) (D : va_G) (cA cL : ClassId) (ad : Nat → Nat) (g g2 : Nat → Nat → Int32) (z z2 : Nat → Nat) (o : Nat) (f : Nat → Int64) (p0 : Int32) (p1 : Int32) (rm : Room) (hrm : rm.cells = 1 ∧ rm.slots = 6 ∧ rm.frames ≤ 8 ∧ rm.locals ≤ 139) (hM : q_CX l yX5_seal [Cond.code yX5_seal cX5_seal 3 (some .boolean)] rm D cA (.ref (ad 70) :: [.int p0, .int p1]) (rlW cA ad g z) "java/lang/IllegalArgumentException" (rlW cA ad g2 z2)) : q_CL l yL_seal [Cond.codeWith yL_seal cL_seal 5 (some .int) [(0, 17, 20, 13), (0, 17, 24, 15)]] rm_L D cA cL [.ref (ad 70), .int p0, .int p1, .ref o] ((o, .inl (cL, 1, .inr (.inl f))) :: rlW cA ad g z) (nI 2) ((o, .inl (cL, 1, .inr (.inl f))) :: rlW cA ad g2 z2) := by
  refine q_startL RL (by decide +kernel) rfl (Nat.le_of_ble_eq_true rfl) ?_
  intro p e s m below meth c A args H locs ls hx hb hr hml hown hT hlk hP hK hD hA hS hl htb hX hN hZ
  have hl : lv_has ls 5 [(0, .ref (ad 70)), (1, .int p0), (2, .int p1), (3, .ref o)] := hl
  refine lv_aload_n hx hb dL_seal_0 rfl (lv_at hl 3 rfl) ?_
  refine lv_iconst (v := nI 0) hx hb dL_seal_1 (by decide +kernel) ?_
  refine lv_aload_n hx hb dL_seal_2 rfl (lv_at hl 0 rfl) ?_
  refine lv_iload_n hx hb dL_seal_3 rfl (lv_at hl 1 rfl) ?_
  refine lv_iload_n hx hb dL_seal_4 rfl (lv_at hl 2 rfl) ?_
  refine q_callXC (As := [.int p0, .int p1]) (w1 := rlW cA ad g2 z2) (name := "java/lang/IllegalArgumentException") hx hb hml hown hT (q_kint hK) hP hD hS hA  hX hZ hM k_X5_seal kl_L_44 (q0 := 0) rfl rfl rfl [(o, .inl (cL, 1, .inr (.inl f)))] [] wp_1 wp_1.symm ((rlW_adr _ _ _ _).trans (rlW_adr _ _ _ _).symm) hl rfl rfl (Nat.le_of_ble_eq_true rfl) ⟨⟨hrm.1, hrm.2.1⟩, (by show rm.frames + 1 ≤ 9; omega), (by show 8 + (3 + 11) + rm.locals ≤ 180; omega)⟩ ⟨Nat.le_of_ble_eq_true rfl, Nat.le_of_ble_eq_true rfl⟩ dL_seal_5 [⟨0, 17, 20, 13⟩] ⟨0, 17, 24, 15⟩ [] htb (fun z hz => Or.inr (by rw [List.mem_singleton.mp hz]; exact ⟨by decide, _, hT.use kx_L_13 args, hN.1⟩)) (by decide) (by decide) kx_L_15 q_cast_iae (fun q9 H locs hP hD hS => ?_)
  refine lv_astore (lv' := [(4, .ref q9), (0, .ref (ad 70)), (1, .int p0), (2, .int p1), (3, .ref o)]) hx hb dL_seal_24 hl (by decide) rfl (fun ls hl => ?_)
  refine lv_iconst (v := nI 2) hx hb dL_seal_26 (by decide +kernel) ?_
  exact q_lret hx hb hr hlk rfl hP hS (by decide) (by decide) dL_seal_27
set_option maxRecDepth 100000 in
set_option maxHeartbeats 4000000 in
theorem wo_block (l : Launch) (D : va_G) (cA cL : ClassId) (ad : Nat → Nat) (g g2 : Nat → Nat → Int32) (z z2 : Nat → Nat) (o : Nat) (f : Nat → Int64) (p0 : Int32) (p1 : Int32) (p2 : Int32) (rm : Room) (bb : Bool) (hrm : rm.cells = 0 ∧ rm.slots = 0 ∧ rm.frames ≤ 8 ∧ rm.locals ≤ 139) (hM : q_CI l yX5_block [Cond.code yX5_block cX5_block 4 (some .boolean)] rm D cA (.ref (ad 70) :: [.int p0, .int p1, .int p2]) (rlW cA ad g z) (q_b bb) (rlW cA ad g2 z2)) : q_CL l yL_block [Cond.codeWith yL_block cL_block 6 (some .int) [(0, 19, 22, 13), (0, 19, 26, 15)]] rm_L D cA cL [.ref (ad 70), .int p0, .int p1, .int p2, .ref o] ((o, .inl (cL, 1, .inr (.inl f))) :: rlW cA ad g z) (nI 0) ((o, .inl (cL, 1, .inr (.inl (vp_updL f 0 (q_L bb))))) :: rlW cA ad g2 z2) := by
  refine q_startL RL (by decide +kernel) rfl (Nat.le_of_ble_eq_true rfl) ?_
  intro p e s m below meth c A args H locs ls hx hb hr hml hown hT hlk hP hK hD hA hS hl htb hX hN hZ
  have hl : lv_has ls 6 [(0, .ref (ad 70)), (1, .int p0), (2, .int p1), (3, .int p2), (4, .ref o)] := hl
  refine lv_aload hx hb dL_block_0 (lv_at hl 4 rfl) ?_
  refine lv_iconst (v := nI 0) hx hb dL_block_2 (by decide +kernel) ?_
  refine lv_aload_n hx hb dL_block_3 rfl (lv_at hl 0 rfl) ?_
  refine lv_iload_n hx hb dL_block_4 rfl (lv_at hl 1 rfl) ?_
  refine lv_iload_n hx hb dL_block_5 rfl (lv_at hl 2 rfl) ?_
  refine lv_iload_n hx hb dL_block_6 rfl (lv_at hl 3 rfl) ?_
  refine q_callIS (As := [.int p0, .int p1, .int p2]) (r := (q_b bb)) (w1 := rlW cA ad g2 z2) hx hb hml hown hT (q_kint hK) hP hD hS hA  hM k_X5_block kl_L_48 (q0 := 0) rfl rfl rfl [(o, .inl (cL, 1, .inr (.inl f)))] [] wp_1 wp_1.symm ((rlW_adr _ _ _ _).trans (rlW_adr _ _ _ _).symm) hl rfl rfl (Nat.le_of_ble_eq_true rfl) ⟨⟨hrm.1, hrm.2.1⟩, (by show rm.frames + 1 ≤ 9; omega), (by show 8 + (4 + 11) + rm.locals ≤ 180; omega)⟩ ⟨Nat.zero_le _, Nat.zero_le _⟩ dL_block_7 (fun H locs hP hD hS => ?_)
  refine lv_if_eq (tgt := 17) hx hb dL_block_10 (by decide) (fun c9 => ?_) (fun c9 => ?_)
  · have c9 := q_b0e c9
    subst c9
    refine lv_lconst (v := q_L false) hx hb dL_block_17 (by decide +kernel) ?_
    refine q_last (x := q_L false) (ws1 := (o, .inl (cL, 1, .inr (.inl (vp_updL f 0 (q_L false))))) :: rlW cA ad g2 z2) hx hb hK hP hD hS 0 rfl rfl rfl dL_block_18 (fun H locs hP hD hS => ?_)
    refine lv_goto (tgt := 30) hx hb dL_block_19 (by decide) ?_
    refine lv_iconst (v := nI 0) hx hb dL_block_30 (by decide +kernel) ?_
    exact q_lret hx hb hr hlk rfl hP hS (by decide) (by decide) dL_block_31
  · have c9 := q_b0n c9
    subst c9
    refine lv_lconst (v := q_L true) hx hb dL_block_13 (by decide +kernel) ?_
    refine lv_goto (tgt := 18) hx hb dL_block_14 (by decide) ?_
    refine q_last (x := q_L true) (ws1 := (o, .inl (cL, 1, .inr (.inl (vp_updL f 0 (q_L true))))) :: rlW cA ad g2 z2) hx hb hK hP hD hS 0 rfl rfl rfl dL_block_18 (fun H locs hP hD hS => ?_)
    refine lv_goto (tgt := 30) hx hb dL_block_19 (by decide) ?_
    refine lv_iconst (v := nI 0) hx hb dL_block_30 (by decide +kernel) ?_
    exact q_lret hx hb hr hlk rfl hP hS (by decide) (by decide) dL_block_31
set_option maxRecDepth 100000 in
set_option maxHeartbeats 4000000 in
theorem wx_block_iob (l : Launch) (D : va_G) (cA cL : ClassId) (ad : Nat → Nat) (g g2 : Nat → Nat → Int32) (z z2 : Nat → Nat) (o : Nat) (f : Nat → Int64) (p0 : Int32) (p1 : Int32) (p2 : Int32) (rm : Room) (hrm : rm.cells = 1 ∧ rm.slots = 6 ∧ rm.frames ≤ 8 ∧ rm.locals ≤ 139) (hM : q_CX l yX5_block [Cond.code yX5_block cX5_block 4 (some .boolean)] rm D cA (.ref (ad 70) :: [.int p0, .int p1, .int p2]) (rlW cA ad g z) "java/lang/IndexOutOfBoundsException" (rlW cA ad g2 z2)) : q_CL l yL_block [Cond.codeWith yL_block cL_block 6 (some .int) [(0, 19, 22, 13), (0, 19, 26, 15)]] rm_L D cA cL [.ref (ad 70), .int p0, .int p1, .int p2, .ref o] ((o, .inl (cL, 1, .inr (.inl f))) :: rlW cA ad g z) (nI 1) ((o, .inl (cL, 1, .inr (.inl f))) :: rlW cA ad g2 z2) := by
  refine q_startL RL (by decide +kernel) rfl (Nat.le_of_ble_eq_true rfl) ?_
  intro p e s m below meth c A args H locs ls hx hb hr hml hown hT hlk hP hK hD hA hS hl htb hX hN hZ
  have hl : lv_has ls 6 [(0, .ref (ad 70)), (1, .int p0), (2, .int p1), (3, .int p2), (4, .ref o)] := hl
  refine lv_aload hx hb dL_block_0 (lv_at hl 4 rfl) ?_
  refine lv_iconst (v := nI 0) hx hb dL_block_2 (by decide +kernel) ?_
  refine lv_aload_n hx hb dL_block_3 rfl (lv_at hl 0 rfl) ?_
  refine lv_iload_n hx hb dL_block_4 rfl (lv_at hl 1 rfl) ?_
  refine lv_iload_n hx hb dL_block_5 rfl (lv_at hl 2 rfl) ?_
  refine lv_iload_n hx hb dL_block_6 rfl (lv_at hl 3 rfl) ?_
  refine q_callXC (As := [.int p0, .int p1, .int p2]) (w1 := rlW cA ad g2 z2) (name := "java/lang/IndexOutOfBoundsException") hx hb hml hown hT (q_kint hK) hP hD hS hA  hX hZ hM k_X5_block kl_L_48 (q0 := 0) rfl rfl rfl [(o, .inl (cL, 1, .inr (.inl f)))] [] wp_1 wp_1.symm ((rlW_adr _ _ _ _).trans (rlW_adr _ _ _ _).symm) hl rfl rfl (Nat.le_of_ble_eq_true rfl) ⟨⟨hrm.1, hrm.2.1⟩, (by show rm.frames + 1 ≤ 9; omega), (by show 8 + (4 + 11) + rm.locals ≤ 180; omega)⟩ ⟨Nat.le_of_ble_eq_true rfl, Nat.le_of_ble_eq_true rfl⟩ dL_block_7 [] ⟨0, 19, 22, 13⟩ [⟨0, 19, 26, 15⟩] htb (fun z hz => absurd hz List.not_mem_nil) (by decide) (by decide) kx_L_13 q_cast_iob (fun q9 H locs hP hD hS => ?_)
  refine lv_astore (lv' := [(5, .ref q9), (0, .ref (ad 70)), (1, .int p0), (2, .int p1), (3, .int p2), (4, .ref o)]) hx hb dL_block_22 hl (by decide) rfl (fun ls hl => ?_)
  refine lv_iconst (v := nI 1) hx hb dL_block_24 (by decide +kernel) ?_
  exact q_lret hx hb hr hlk rfl hP hS (by decide) (by decide) dL_block_25
set_option maxRecDepth 100000 in
set_option maxHeartbeats 4000000 in
theorem wx_block_iae (l : Launch) (D : va_G) (cA cL : ClassId) (ad : Nat → Nat) (g g2 : Nat → Nat → Int32) (z z2 : Nat → Nat) (o : Nat) (f : Nat → Int64) (p0 : Int32) (p1 : Int32) (p2 : Int32) (rm : Room) (hrm : rm.cells = 1 ∧ rm.slots = 6 ∧ rm.frames ≤ 8 ∧ rm.locals ≤ 139) (hM : q_CX l yX5_block [Cond.code yX5_block cX5_block 4 (some .boolean)] rm D cA (.ref (ad 70) :: [.int p0, .int p1, .int p2]) (rlW cA ad g z) "java/lang/IllegalArgumentException" (rlW cA ad g2 z2)) : q_CL l yL_block [Cond.codeWith yL_block cL_block 6 (some .int) [(0, 19, 22, 13), (0, 19, 26, 15)]] rm_L D cA cL [.ref (ad 70), .int p0, .int p1, .int p2, .ref o] ((o, .inl (cL, 1, .inr (.inl f))) :: rlW cA ad g z) (nI 2) ((o, .inl (cL, 1, .inr (.inl f))) :: rlW cA ad g2 z2) := by
  refine q_startL RL (by decide +kernel) rfl (Nat.le_of_ble_eq_true rfl) ?_
  intro p e s m below meth c A args H locs ls hx hb hr hml hown hT hlk hP hK hD hA hS hl htb hX hN hZ
  have hl : lv_has ls 6 [(0, .ref (ad 70)), (1, .int p0), (2, .int p1), (3, .int p2), (4, .ref o)] := hl
  refine lv_aload hx hb dL_block_0 (lv_at hl 4 rfl) ?_
  refine lv_iconst (v := nI 0) hx hb dL_block_2 (by decide +kernel) ?_
  refine lv_aload_n hx hb dL_block_3 rfl (lv_at hl 0 rfl) ?_
  refine lv_iload_n hx hb dL_block_4 rfl (lv_at hl 1 rfl) ?_
  refine lv_iload_n hx hb dL_block_5 rfl (lv_at hl 2 rfl) ?_
  refine lv_iload_n hx hb dL_block_6 rfl (lv_at hl 3 rfl) ?_
  refine q_callXC (As := [.int p0, .int p1, .int p2]) (w1 := rlW cA ad g2 z2) (name := "java/lang/IllegalArgumentException") hx hb hml hown hT (q_kint hK) hP hD hS hA  hX hZ hM k_X5_block kl_L_48 (q0 := 0) rfl rfl rfl [(o, .inl (cL, 1, .inr (.inl f)))] [] wp_1 wp_1.symm ((rlW_adr _ _ _ _).trans (rlW_adr _ _ _ _).symm) hl rfl rfl (Nat.le_of_ble_eq_true rfl) ⟨⟨hrm.1, hrm.2.1⟩, (by show rm.frames + 1 ≤ 9; omega), (by show 8 + (4 + 11) + rm.locals ≤ 180; omega)⟩ ⟨Nat.le_of_ble_eq_true rfl, Nat.le_of_ble_eq_true rfl⟩ dL_block_7 [⟨0, 19, 22, 13⟩] ⟨0, 19, 26, 15⟩ [] htb (fun z hz => Or.inr (by rw [List.mem_singleton.mp hz]; exact ⟨by decide, _, hT.use kx_L_13 args, hN.1⟩)) (by decide) (by decide) kx_L_15 q_cast_iae (fun q9 H locs hP hD hS => ?_)
  refine lv_astore (lv' := [(5, .ref q9), (0, .ref (ad 70)), (1, .int p0), (2, .int p1), (3, .int p2), (4, .ref o)]) hx hb dL_block_26 hl (by decide) rfl (fun ls hl => ?_)
  refine lv_iconst (v := nI 2) hx hb dL_block_28 (by decide +kernel) ?_
  exact q_lret hx hb hr hlk rfl hP hS (by decide) (by decide) dL_block_29
set_option maxRecDepth 100000 in
set_option maxHeartbeats 4000000 in
theorem wo_weight (l : Launch) (D : va_G) (cA cL : ClassId) (ad : Nat → Nat) (g g2 : Nat → Nat → Int32) (z z2 : Nat → Nat) (o : Nat) (f : Nat → Int64) (p0 : Int32) (p1 : Int32) (rm : Room) (r : Int32) (hrm : rm.cells = 0 ∧ rm.slots = 0 ∧ rm.frames ≤ 8 ∧ rm.locals ≤ 139) (hM : q_CI l yX5_weight [Cond.code yX5_weight cX5_weight 3 (some .int)] rm D cA (.ref (ad 70) :: [.int p0, .int p1]) (rlW cA ad g z) r (rlW cA ad g2 z2)) : q_CL l yL_weight [Cond.codeWith yL_weight cL_weight 5 (some .int) [(0, 10, 13, 13), (0, 10, 17, 15)]] rm_L D cA cL [.ref (ad 70), .int p0, .int p1, .ref o] ((o, .inl (cL, 1, .inr (.inl f))) :: rlW cA ad g z) (nI 0) ((o, .inl (cL, 1, .inr (.inl (vp_updL f 0 r.toInt64)))) :: rlW cA ad g2 z2) := by
  refine q_startL RL (by decide +kernel) rfl (Nat.le_of_ble_eq_true rfl) ?_
  intro p e s m below meth c A args H locs ls hx hb hr hml hown hT hlk hP hK hD hA hS hl htb hX hN hZ
  have hl : lv_has ls 5 [(0, .ref (ad 70)), (1, .int p0), (2, .int p1), (3, .ref o)] := hl
  refine lv_aload_n hx hb dL_weight_0 rfl (lv_at hl 3 rfl) ?_
  refine lv_iconst (v := nI 0) hx hb dL_weight_1 (by decide +kernel) ?_
  refine lv_aload_n hx hb dL_weight_2 rfl (lv_at hl 0 rfl) ?_
  refine lv_iload_n hx hb dL_weight_3 rfl (lv_at hl 1 rfl) ?_
  refine lv_iload_n hx hb dL_weight_4 rfl (lv_at hl 2 rfl) ?_
  refine q_callIS (As := [.int p0, .int p1]) (r := r) (w1 := rlW cA ad g2 z2) hx hb hml hown hT (q_kint hK) hP hD hS hA  hM k_X5_weight kl_L_51 (q0 := 0) rfl rfl rfl [(o, .inl (cL, 1, .inr (.inl f)))] [] wp_1 wp_1.symm ((rlW_adr _ _ _ _).trans (rlW_adr _ _ _ _).symm) hl rfl rfl (Nat.le_of_ble_eq_true rfl) ⟨⟨hrm.1, hrm.2.1⟩, (by show rm.frames + 1 ≤ 9; omega), (by show 8 + (3 + 11) + rm.locals ≤ 180; omega)⟩ ⟨Nat.zero_le _, Nat.zero_le _⟩ dL_weight_5 (fun H locs hP hD hS => ?_)
  refine lv_i2l (v := r.toInt64) hx hb dL_weight_8 rfl ?_
  refine q_last (x := r.toInt64) (ws1 := (o, .inl (cL, 1, .inr (.inl (vp_updL f 0 r.toInt64)))) :: rlW cA ad g2 z2) hx hb hK hP hD hS 0 rfl rfl rfl dL_weight_9 (fun H locs hP hD hS => ?_)
  refine lv_goto (tgt := 21) hx hb dL_weight_10 (by decide) ?_
  refine lv_iconst (v := nI 0) hx hb dL_weight_21 (by decide +kernel) ?_
  exact q_lret hx hb hr hlk rfl hP hS (by decide) (by decide) dL_weight_22
set_option maxRecDepth 100000 in
set_option maxHeartbeats 4000000 in
theorem wx_weight_iob (l : Launch) (D : va_G) (cA cL : ClassId) (ad : Nat → Nat) (g g2 : Nat → Nat → Int32) (z z2 : Nat → Nat) (o : Nat) (f : Nat → Int64) (p0 : Int32) (p1 : Int32) (rm : Room) (hrm : rm.cells = 1 ∧ rm.slots = 6 ∧ rm.frames ≤ 8 ∧ rm.locals ≤ 139) (hM : q_CX l yX5_weight [Cond.code yX5_weight cX5_weight 3 (some .int)] rm D cA (.ref (ad 70) :: [.int p0, .int p1]) (rlW cA ad g z) "java/lang/IndexOutOfBoundsException" (rlW cA ad g2 z2)) : q_CL l yL_weight [Cond.codeWith yL_weight cL_weight 5 (some .int) [(0, 10, 13, 13), (0, 10, 17, 15)]] rm_L D cA cL [.ref (ad 70), .int p0, .int p1, .ref o] ((o, .inl (cL, 1, .inr (.inl f))) :: rlW cA ad g z) (nI 1) ((o, .inl (cL, 1, .inr (.inl f))) :: rlW cA ad g2 z2) := by
  refine q_startL RL (by decide +kernel) rfl (Nat.le_of_ble_eq_true rfl) ?_
  intro p e s m below meth c A args H locs ls hx hb hr hml hown hT hlk hP hK hD hA hS hl htb hX hN hZ
  have hl : lv_has ls 5 [(0, .ref (ad 70)), (1, .int p0), (2, .int p1), (3, .ref o)] := hl
  refine lv_aload_n hx hb dL_weight_0 rfl (lv_at hl 3 rfl) ?_
  refine lv_iconst (v := nI 0) hx hb dL_weight_1 (by decide +kernel) ?_
  refine lv_aload_n hx hb dL_weight_2 rfl (lv_at hl 0 rfl) ?_
  refine lv_iload_n hx hb dL_weight_3 rfl (lv_at hl 1 rfl) ?_
  refine lv_iload_n hx hb dL_weight_4 rfl (lv_at hl 2 rfl) ?_
  refine q_callXC (As := [.int p0, .int p1]) (w1 := rlW cA ad g2 z2) (name := "java/lang/IndexOutOfBoundsException") hx hb hml hown hT (q_kint hK) hP hD hS hA  hX hZ hM k_X5_weight kl_L_51 (q0 := 0) rfl rfl rfl [(o, .inl (cL, 1, .inr (.inl f)))] [] wp_1 wp_1.symm ((rlW_adr _ _ _ _).trans (rlW_adr _ _ _ _).symm) hl rfl rfl (Nat.le_of_ble_eq_true rfl) ⟨⟨hrm.1, hrm.2.1⟩, (by show rm.frames + 1 ≤ 9; omega), (by show 8 + (3 + 11) + rm.locals ≤ 180; omega)⟩ ⟨Nat.le_of_ble_eq_true rfl, Nat.le_of_ble_eq_true rfl⟩ dL_weight_5 [] ⟨0, 10, 13, 13⟩ [⟨0, 10, 17, 15⟩] htb (fun z hz => absurd hz List.not_mem_nil) (by decide) (by decide) kx_L_13 q_cast_iob (fun q9 H locs hP hD hS => ?_)
  refine lv_astore (lv' := [(4, .ref q9), (0, .ref (ad 70)), (1, .int p0), (2, .int p1), (3, .ref o)]) hx hb dL_weight_13 hl (by decide) rfl (fun ls hl => ?_)
  refine lv_iconst (v := nI 1) hx hb dL_weight_15 (by decide +kernel) ?_
  exact q_lret hx hb hr hlk rfl hP hS (by decide) (by decide) dL_weight_16
set_option maxRecDepth 100000 in
set_option maxHeartbeats 4000000 in
theorem wx_weight_iae (l : Launch) (D : va_G) (cA cL : ClassId) (ad : Nat → Nat) (g g2 : Nat → Nat → Int32) (z z2 : Nat → Nat) (o : Nat) (f : Nat → Int64) (p0 : Int32) (p1 : Int32) (rm : Room) (hrm : rm.cells = 1 ∧ rm.slots = 6 ∧ rm.frames ≤ 8 ∧ rm.locals ≤ 139) (hM : q_CX l yX5_weight [Cond.code yX5_weight cX5_weight 3 (some .int)] rm D cA (.ref (ad 70) :: [.int p0, .int p1]) (rlW cA ad g z) "java/lang/IllegalArgumentException" (rlW cA ad g2 z2)) : q_CL l yL_weight [Cond.codeWith yL_weight cL_weight 5 (some .int) [(0, 10, 13, 13), (0, 10, 17, 15)]] rm_L D cA cL [.ref (ad 70), .int p0, .int p1, .ref o] ((o, .inl (cL, 1, .inr (.inl f))) :: rlW cA ad g z) (nI 2) ((o, .inl (cL, 1, .inr (.inl f))) :: rlW cA ad g2 z2) := by
  refine q_startL RL (by decide +kernel) rfl (Nat.le_of_ble_eq_true rfl) ?_
  intro p e s m below meth c A args H locs ls hx hb hr hml hown hT hlk hP hK hD hA hS hl htb hX hN hZ
  have hl : lv_has ls 5 [(0, .ref (ad 70)), (1, .int p0), (2, .int p1), (3, .ref o)] := hl
  refine lv_aload_n hx hb dL_weight_0 rfl (lv_at hl 3 rfl) ?_
  refine lv_iconst (v := nI 0) hx hb dL_weight_1 (by decide +kernel) ?_
  refine lv_aload_n hx hb dL_weight_2 rfl (lv_at hl 0 rfl) ?_
  refine lv_iload_n hx hb dL_weight_3 rfl (lv_at hl 1 rfl) ?_
  refine lv_iload_n hx hb dL_weight_4 rfl (lv_at hl 2 rfl) ?_
  refine q_callXC (As := [.int p0, .int p1]) (w1 := rlW cA ad g2 z2) (name := "java/lang/IllegalArgumentException") hx hb hml hown hT (q_kint hK) hP hD hS hA  hX hZ hM k_X5_weight kl_L_51 (q0 := 0) rfl rfl rfl [(o, .inl (cL, 1, .inr (.inl f)))] [] wp_1 wp_1.symm ((rlW_adr _ _ _ _).trans (rlW_adr _ _ _ _).symm) hl rfl rfl (Nat.le_of_ble_eq_true rfl) ⟨⟨hrm.1, hrm.2.1⟩, (by show rm.frames + 1 ≤ 9; omega), (by show 8 + (3 + 11) + rm.locals ≤ 180; omega)⟩ ⟨Nat.le_of_ble_eq_true rfl, Nat.le_of_ble_eq_true rfl⟩ dL_weight_5 [⟨0, 10, 13, 13⟩] ⟨0, 10, 17, 15⟩ [] htb (fun z hz => Or.inr (by rw [List.mem_singleton.mp hz]; exact ⟨by decide, _, hT.use kx_L_13 args, hN.1⟩)) (by decide) (by decide) kx_L_15 q_cast_iae (fun q9 H locs hP hD hS => ?_)
  refine lv_astore (lv' := [(4, .ref q9), (0, .ref (ad 70)), (1, .int p0), (2, .int p1), (3, .ref o)]) hx hb dL_weight_17 hl (by decide) rfl (fun ls hl => ?_)
  refine lv_iconst (v := nI 2) hx hb dL_weight_19 (by decide +kernel) ?_
  exact q_lret hx hb hr hlk rfl hP hS (by decide) (by decide) dL_weight_20
set_option maxRecDepth 100000 in
set_option maxHeartbeats 4000000 in
theorem wo_whyNot (l : Launch) (D : va_G) (cA cL : ClassId) (ad : Nat → Nat) (g g2 : Nat → Nat → Int32) (z z2 : Nat → Nat) (o : Nat) (f : Nat → Int64) (p0 : Int32) (p1 : Int32) (rm : Room) (r : Int32) (hrm : rm.cells = 0 ∧ rm.slots = 0 ∧ rm.frames ≤ 8 ∧ rm.locals ≤ 139) (hM : q_CI l yX5_whyNot [Cond.code yX5_whyNot cX5_whyNot 3 (some .int)] rm D cA (.ref (ad 70) :: [.int p0, .int p1]) (rlW cA ad g z) r (rlW cA ad g2 z2)) : q_CL l yL_whyNot [Cond.codeWith yL_whyNot cL_whyNot 5 (some .int) [(0, 10, 13, 13), (0, 10, 17, 15)]] rm_L D cA cL [.ref (ad 70), .int p0, .int p1, .ref o] ((o, .inl (cL, 1, .inr (.inl f))) :: rlW cA ad g z) (nI 0) ((o, .inl (cL, 1, .inr (.inl (vp_updL f 0 r.toInt64)))) :: rlW cA ad g2 z2) := by
  refine q_startL RL (by decide +kernel) rfl (Nat.le_of_ble_eq_true rfl) ?_
  intro p e s m below meth c A args H locs ls hx hb hr hml hown hT hlk hP hK hD hA hS hl htb hX hN hZ
  have hl : lv_has ls 5 [(0, .ref (ad 70)), (1, .int p0), (2, .int p1), (3, .ref o)] := hl
  refine lv_aload_n hx hb dL_whyNot_0 rfl (lv_at hl 3 rfl) ?_
  refine lv_iconst (v := nI 0) hx hb dL_whyNot_1 (by decide +kernel) ?_
  refine lv_aload_n hx hb dL_whyNot_2 rfl (lv_at hl 0 rfl) ?_
  refine lv_iload_n hx hb dL_whyNot_3 rfl (lv_at hl 1 rfl) ?_
  refine lv_iload_n hx hb dL_whyNot_4 rfl (lv_at hl 2 rfl) ?_
  refine q_callIS (As := [.int p0, .int p1]) (r := r) (w1 := rlW cA ad g2 z2) hx hb hml hown hT (q_kint hK) hP hD hS hA  hM k_X5_whyNot kl_L_54 (q0 := 0) rfl rfl rfl [(o, .inl (cL, 1, .inr (.inl f)))] [] wp_1 wp_1.symm ((rlW_adr _ _ _ _).trans (rlW_adr _ _ _ _).symm) hl rfl rfl (Nat.le_of_ble_eq_true rfl) ⟨⟨hrm.1, hrm.2.1⟩, (by show rm.frames + 1 ≤ 9; omega), (by show 8 + (3 + 11) + rm.locals ≤ 180; omega)⟩ ⟨Nat.zero_le _, Nat.zero_le _⟩ dL_whyNot_5 (fun H locs hP hD hS => ?_)
  refine lv_i2l (v := r.toInt64) hx hb dL_whyNot_8 rfl ?_
  refine q_last (x := r.toInt64) (ws1 := (o, .inl (cL, 1, .inr (.inl (vp_updL f 0 r.toInt64)))) :: rlW cA ad g2 z2) hx hb hK hP hD hS 0 rfl rfl rfl dL_whyNot_9 (fun H locs hP hD hS => ?_)
  refine lv_goto (tgt := 21) hx hb dL_whyNot_10 (by decide) ?_
  refine lv_iconst (v := nI 0) hx hb dL_whyNot_21 (by decide +kernel) ?_
  exact q_lret hx hb hr hlk rfl hP hS (by decide) (by decide) dL_whyNot_22
set_option maxRecDepth 100000 in
set_option maxHeartbeats 4000000 in
theorem wx_whyNot_iob (l : Launch) (D : va_G) (cA cL : ClassId) (ad : Nat → Nat) (g g2 : Nat → Nat → Int32) (z z2 : Nat → Nat) (o : Nat) (f : Nat → Int64) (p0 : Int32) (p1 : Int32) (rm : Room) (hrm : rm.cells = 1 ∧ rm.slots = 6 ∧ rm.frames ≤ 8 ∧ rm.locals ≤ 139) (hM : q_CX l yX5_whyNot [Cond.code yX5_whyNot cX5_whyNot 3 (some .int)] rm D cA (.ref (ad 70) :: [.int p0, .int p1]) (rlW cA ad g z) "java/lang/IndexOutOfBoundsException" (rlW cA ad g2 z2)) : q_CL l yL_whyNot [Cond.codeWith yL_whyNot cL_whyNot 5 (some .int) [(0, 10, 13, 13), (0, 10, 17, 15)]] rm_L D cA cL [.ref (ad 70), .int p0, .int p1, .ref o] ((o, .inl (cL, 1, .inr (.inl f))) :: rlW cA ad g z) (nI 1) ((o, .inl (cL, 1, .inr (.inl f))) :: rlW cA ad g2 z2) := by
  refine q_startL RL (by decide +kernel) rfl (Nat.le_of_ble_eq_true rfl) ?_
  intro p e s m below meth c A args H locs ls hx hb hr hml hown hT hlk hP hK hD hA hS hl htb hX hN hZ
  have hl : lv_has ls 5 [(0, .ref (ad 70)), (1, .int p0), (2, .int p1), (3, .ref o)] := hl
  refine lv_aload_n hx hb dL_whyNot_0 rfl (lv_at hl 3 rfl) ?_
  refine lv_iconst (v := nI 0) hx hb dL_whyNot_1 (by decide +kernel) ?_
  refine lv_aload_n hx hb dL_whyNot_2 rfl (lv_at hl 0 rfl) ?_
  refine lv_iload_n hx hb dL_whyNot_3 rfl (lv_at hl 1 rfl) ?_
  refine lv_iload_n hx hb dL_whyNot_4 rfl (lv_at hl 2 rfl) ?_
  refine q_callXC (As := [.int p0, .int p1]) (w1 := rlW cA ad g2 z2) (name := "java/lang/IndexOutOfBoundsException") hx hb hml hown hT (q_kint hK) hP hD hS hA  hX hZ hM k_X5_whyNot kl_L_54 (q0 := 0) rfl rfl rfl [(o, .inl (cL, 1, .inr (.inl f)))] [] wp_1 wp_1.symm ((rlW_adr _ _ _ _).trans (rlW_adr _ _ _ _).symm) hl rfl rfl (Nat.le_of_ble_eq_true rfl) ⟨⟨hrm.1, hrm.2.1⟩, (by show rm.frames + 1 ≤ 9; omega), (by show 8 + (3 + 11) + rm.locals ≤ 180; omega)⟩ ⟨Nat.le_of_ble_eq_true rfl, Nat.le_of_ble_eq_true rfl⟩ dL_whyNot_5 [] ⟨0, 10, 13, 13⟩ [⟨0, 10, 17, 15⟩] htb (fun z hz => absurd hz List.not_mem_nil) (by decide) (by decide) kx_L_13 q_cast_iob (fun q9 H locs hP hD hS => ?_)
  refine lv_astore (lv' := [(4, .ref q9), (0, .ref (ad 70)), (1, .int p0), (2, .int p1), (3, .ref o)]) hx hb dL_whyNot_13 hl (by decide) rfl (fun ls hl => ?_)
  refine lv_iconst (v := nI 1) hx hb dL_whyNot_15 (by decide +kernel) ?_
  exact q_lret hx hb hr hlk rfl hP hS (by decide) (by decide) dL_whyNot_16
set_option maxRecDepth 100000 in
set_option maxHeartbeats 4000000 in
theorem wx_whyNot_iae (l : Launch) (D : va_G) (cA cL : ClassId) (ad : Nat → Nat) (g g2 : Nat → Nat → Int32) (z z2 : Nat → Nat) (o : Nat) (f : Nat → Int64) (p0 : Int32) (p1 : Int32) (rm : Room) (hrm : rm.cells = 1 ∧ rm.slots = 6 ∧ rm.frames ≤ 8 ∧ rm.locals ≤ 139) (hM : q_CX l yX5_whyNot [Cond.code yX5_whyNot cX5_whyNot 3 (some .int)] rm D cA (.ref (ad 70) :: [.int p0, .int p1]) (rlW cA ad g z) "java/lang/IllegalArgumentException" (rlW cA ad g2 z2)) : q_CL l yL_whyNot [Cond.codeWith yL_whyNot cL_whyNot 5 (some .int) [(0, 10, 13, 13), (0, 10, 17, 15)]] rm_L D cA cL [.ref (ad 70), .int p0, .int p1, .ref o] ((o, .inl (cL, 1, .inr (.inl f))) :: rlW cA ad g z) (nI 2) ((o, .inl (cL, 1, .inr (.inl f))) :: rlW cA ad g2 z2) := by
  refine q_startL RL (by decide +kernel) rfl (Nat.le_of_ble_eq_true rfl) ?_
  intro p e s m below meth c A args H locs ls hx hb hr hml hown hT hlk hP hK hD hA hS hl htb hX hN hZ
  have hl : lv_has ls 5 [(0, .ref (ad 70)), (1, .int p0), (2, .int p1), (3, .ref o)] := hl
  refine lv_aload_n hx hb dL_whyNot_0 rfl (lv_at hl 3 rfl) ?_
  refine lv_iconst (v := nI 0) hx hb dL_whyNot_1 (by decide +kernel) ?_
  refine lv_aload_n hx hb dL_whyNot_2 rfl (lv_at hl 0 rfl) ?_
  refine lv_iload_n hx hb dL_whyNot_3 rfl (lv_at hl 1 rfl) ?_
  refine lv_iload_n hx hb dL_whyNot_4 rfl (lv_at hl 2 rfl) ?_
  refine q_callXC (As := [.int p0, .int p1]) (w1 := rlW cA ad g2 z2) (name := "java/lang/IllegalArgumentException") hx hb hml hown hT (q_kint hK) hP hD hS hA  hX hZ hM k_X5_whyNot kl_L_54 (q0 := 0) rfl rfl rfl [(o, .inl (cL, 1, .inr (.inl f)))] [] wp_1 wp_1.symm ((rlW_adr _ _ _ _).trans (rlW_adr _ _ _ _).symm) hl rfl rfl (Nat.le_of_ble_eq_true rfl) ⟨⟨hrm.1, hrm.2.1⟩, (by show rm.frames + 1 ≤ 9; omega), (by show 8 + (3 + 11) + rm.locals ≤ 180; omega)⟩ ⟨Nat.le_of_ble_eq_true rfl, Nat.le_of_ble_eq_true rfl⟩ dL_whyNot_5 [⟨0, 10, 13, 13⟩] ⟨0, 10, 17, 15⟩ [] htb (fun z hz => Or.inr (by rw [List.mem_singleton.mp hz]; exact ⟨by decide, _, hT.use kx_L_13 args, hN.1⟩)) (by decide) (by decide) kx_L_15 q_cast_iae (fun q9 H locs hP hD hS => ?_)
  refine lv_astore (lv' := [(4, .ref q9), (0, .ref (ad 70)), (1, .int p0), (2, .int p1), (3, .ref o)]) hx hb dL_whyNot_17 hl (by decide) rfl (fun ls hl => ?_)
  refine lv_iconst (v := nI 2) hx hb dL_whyNot_19 (by decide +kernel) ?_
  exact q_lret hx hb hr hlk rfl hP hS (by decide) (by decide) dL_whyNot_20
set_option maxRecDepth 100000 in
set_option maxHeartbeats 4000000 in
theorem wo_join (l : Launch) (D : va_G) (cA cL : ClassId) (ad : Nat → Nat) (g g2 : Nat → Nat → Int32) (z z2 : Nat → Nat) (o : Nat) (f : Nat → Int64) (p0 : Int32) (p1 : Int32) (rm : Room) (r : Int32) (hrm : rm.cells = 0 ∧ rm.slots = 0 ∧ rm.frames ≤ 8 ∧ rm.locals ≤ 139) (hM : q_CI l yX5_join [Cond.code yX5_join cX5_join 3 (some .int)] rm D cA (.ref (ad 70) :: [.int p0, .int p1]) (rlW cA ad g z) r (rlW cA ad g2 z2)) : q_CL l yL_join [Cond.codeWith yL_join cL_join 5 (some .int) [(0, 10, 13, 13), (0, 10, 17, 15), (0, 10, 21, 17)]] rm_L D cA cL [.ref (ad 70), .int p0, .int p1, .ref o] ((o, .inl (cL, 1, .inr (.inl f))) :: rlW cA ad g z) (nI 0) ((o, .inl (cL, 1, .inr (.inl (vp_updL f 0 r.toInt64)))) :: rlW cA ad g2 z2) := by
  refine q_startL RL (by decide +kernel) rfl (Nat.le_of_ble_eq_true rfl) ?_
  intro p e s m below meth c A args H locs ls hx hb hr hml hown hT hlk hP hK hD hA hS hl htb hX hN hZ
  have hl : lv_has ls 5 [(0, .ref (ad 70)), (1, .int p0), (2, .int p1), (3, .ref o)] := hl
  refine lv_aload_n hx hb dL_join_0 rfl (lv_at hl 3 rfl) ?_
  refine lv_iconst (v := nI 0) hx hb dL_join_1 (by decide +kernel) ?_
  refine lv_aload_n hx hb dL_join_2 rfl (lv_at hl 0 rfl) ?_
  refine lv_iload_n hx hb dL_join_3 rfl (lv_at hl 1 rfl) ?_
  refine lv_iload_n hx hb dL_join_4 rfl (lv_at hl 2 rfl) ?_
  refine q_callIS (As := [.int p0, .int p1]) (r := r) (w1 := rlW cA ad g2 z2) hx hb hml hown hT (q_kint hK) hP hD hS hA  hM k_X5_join kl_L_57 (q0 := 0) rfl rfl rfl [(o, .inl (cL, 1, .inr (.inl f)))] [] wp_1 wp_1.symm ((rlW_adr _ _ _ _).trans (rlW_adr _ _ _ _).symm) hl rfl rfl (Nat.le_of_ble_eq_true rfl) ⟨⟨hrm.1, hrm.2.1⟩, (by show rm.frames + 1 ≤ 9; omega), (by show 8 + (3 + 11) + rm.locals ≤ 180; omega)⟩ ⟨Nat.zero_le _, Nat.zero_le _⟩ dL_join_5 (fun H locs hP hD hS => ?_)
  refine lv_i2l (v := r.toInt64) hx hb dL_join_8 rfl ?_
  refine q_last (x := r.toInt64) (ws1 := (o, .inl (cL, 1, .inr (.inl (vp_updL f 0 r.toInt64)))) :: rlW cA ad g2 z2) hx hb hK hP hD hS 0 rfl rfl rfl dL_join_9 (fun H locs hP hD hS => ?_)
  refine lv_goto (tgt := 25) hx hb dL_join_10 (by decide) ?_
  refine lv_iconst (v := nI 0) hx hb dL_join_25 (by decide +kernel) ?_
  exact q_lret hx hb hr hlk rfl hP hS (by decide) (by decide) dL_join_26
set_option maxRecDepth 100000 in
set_option maxHeartbeats 4000000 in
theorem wx_join_iob (l : Launch) (D : va_G) (cA cL : ClassId) (ad : Nat → Nat) (g g2 : Nat → Nat → Int32) (z z2 : Nat → Nat) (o : Nat) (f : Nat → Int64) (p0 : Int32) (p1 : Int32) (rm : Room) (hrm : rm.cells = 1 ∧ rm.slots = 6 ∧ rm.frames ≤ 8 ∧ rm.locals ≤ 139) (hM : q_CX l yX5_join [Cond.code yX5_join cX5_join 3 (some .int)] rm D cA (.ref (ad 70) :: [.int p0, .int p1]) (rlW cA ad g z) "java/lang/IndexOutOfBoundsException" (rlW cA ad g2 z2)) : q_CL l yL_join [Cond.codeWith yL_join cL_join 5 (some .int) [(0, 10, 13, 13), (0, 10, 17, 15), (0, 10, 21, 17)]] rm_L D cA cL [.ref (ad 70), .int p0, .int p1, .ref o] ((o, .inl (cL, 1, .inr (.inl f))) :: rlW cA ad g z) (nI 1) ((o, .inl (cL, 1, .inr (.inl f))) :: rlW cA ad g2 z2) := by
  refine q_startL RL (by decide +kernel) rfl (Nat.le_of_ble_eq_true rfl) ?_
  intro p e s m below meth c A args H locs ls hx hb hr hml hown hT hlk hP hK hD hA hS hl htb hX hN hZ
  have hl : lv_has ls 5 [(0, .ref (ad 70)), (1, .int p0), (2, .int p1), (3, .ref o)] := hl
  refine lv_aload_n hx hb dL_join_0 rfl (lv_at hl 3 rfl) ?_
  refine lv_iconst (v := nI 0) hx hb dL_join_1 (by decide +kernel) ?_
  refine lv_aload_n hx hb dL_join_2 rfl (lv_at hl 0 rfl) ?_
  refine lv_iload_n hx hb dL_join_3 rfl (lv_at hl 1 rfl) ?_
  refine lv_iload_n hx hb dL_join_4 rfl (lv_at hl 2 rfl) ?_
  refine q_callXC (As := [.int p0, .int p1]) (w1 := rlW cA ad g2 z2) (name := "java/lang/IndexOutOfBoundsException") hx hb hml hown hT (q_kint hK) hP hD hS hA  hX hZ hM k_X5_join kl_L_57 (q0 := 0) rfl rfl rfl [(o, .inl (cL, 1, .inr (.inl f)))] [] wp_1 wp_1.symm ((rlW_adr _ _ _ _).trans (rlW_adr _ _ _ _).symm) hl rfl rfl (Nat.le_of_ble_eq_true rfl) ⟨⟨hrm.1, hrm.2.1⟩, (by show rm.frames + 1 ≤ 9; omega), (by show 8 + (3 + 11) + rm.locals ≤ 180; omega)⟩ ⟨Nat.le_of_ble_eq_true rfl, Nat.le_of_ble_eq_true rfl⟩ dL_join_5 [] ⟨0, 10, 13, 13⟩ [⟨0, 10, 17, 15⟩, ⟨0, 10, 21, 17⟩] htb (fun z hz => absurd hz List.not_mem_nil) (by decide) (by decide) kx_L_13 q_cast_iob (fun q9 H locs hP hD hS => ?_)
  refine lv_astore (lv' := [(4, .ref q9), (0, .ref (ad 70)), (1, .int p0), (2, .int p1), (3, .ref o)]) hx hb dL_join_13 hl (by decide) rfl (fun ls hl => ?_)
  refine lv_iconst (v := nI 1) hx hb dL_join_15 (by decide +kernel) ?_
  exact q_lret hx hb hr hlk rfl hP hS (by decide) (by decide) dL_join_16
set_option maxRecDepth 100000 in
set_option maxHeartbeats 4000000 in
theorem wx_join_iae (l : Launch) (D : va_G) (cA cL : ClassId) (ad : Nat → Nat) (g g2 : Nat → Nat → Int32) (z z2 : Nat → Nat) (o : Nat) (f : Nat → Int64) (p0 : Int32) (p1 : Int32) (rm : Room) (hrm : rm.cells = 1 ∧ rm.slots = 6 ∧ rm.frames ≤ 8 ∧ rm.locals ≤ 139) (hM : q_CX l yX5_join [Cond.code yX5_join cX5_join 3 (some .int)] rm D cA (.ref (ad 70) :: [.int p0, .int p1]) (rlW cA ad g z) "java/lang/IllegalArgumentException" (rlW cA ad g2 z2)) : q_CL l yL_join [Cond.codeWith yL_join cL_join 5 (some .int) [(0, 10, 13, 13), (0, 10, 17, 15), (0, 10, 21, 17)]] rm_L D cA cL [.ref (ad 70), .int p0, .int p1, .ref o] ((o, .inl (cL, 1, .inr (.inl f))) :: rlW cA ad g z) (nI 2) ((o, .inl (cL, 1, .inr (.inl f))) :: rlW cA ad g2 z2) := by
  refine q_startL RL (by decide +kernel) rfl (Nat.le_of_ble_eq_true rfl) ?_
  intro p e s m below meth c A args H locs ls hx hb hr hml hown hT hlk hP hK hD hA hS hl htb hX hN hZ
  have hl : lv_has ls 5 [(0, .ref (ad 70)), (1, .int p0), (2, .int p1), (3, .ref o)] := hl
  refine lv_aload_n hx hb dL_join_0 rfl (lv_at hl 3 rfl) ?_
  refine lv_iconst (v := nI 0) hx hb dL_join_1 (by decide +kernel) ?_
  refine lv_aload_n hx hb dL_join_2 rfl (lv_at hl 0 rfl) ?_
  refine lv_iload_n hx hb dL_join_3 rfl (lv_at hl 1 rfl) ?_
  refine lv_iload_n hx hb dL_join_4 rfl (lv_at hl 2 rfl) ?_
  refine q_callXC (As := [.int p0, .int p1]) (w1 := rlW cA ad g2 z2) (name := "java/lang/IllegalArgumentException") hx hb hml hown hT (q_kint hK) hP hD hS hA  hX hZ hM k_X5_join kl_L_57 (q0 := 0) rfl rfl rfl [(o, .inl (cL, 1, .inr (.inl f)))] [] wp_1 wp_1.symm ((rlW_adr _ _ _ _).trans (rlW_adr _ _ _ _).symm) hl rfl rfl (Nat.le_of_ble_eq_true rfl) ⟨⟨hrm.1, hrm.2.1⟩, (by show rm.frames + 1 ≤ 9; omega), (by show 8 + (3 + 11) + rm.locals ≤ 180; omega)⟩ ⟨Nat.le_of_ble_eq_true rfl, Nat.le_of_ble_eq_true rfl⟩ dL_join_5 [⟨0, 10, 13, 13⟩] ⟨0, 10, 17, 15⟩ [⟨0, 10, 21, 17⟩] htb (fun z hz => Or.inr (by rw [List.mem_singleton.mp hz]; exact ⟨by decide, _, hT.use kx_L_13 args, hN.1⟩)) (by decide) (by decide) kx_L_15 q_cast_iae (fun q9 H locs hP hD hS => ?_)
  refine lv_astore (lv' := [(4, .ref q9), (0, .ref (ad 70)), (1, .int p0), (2, .int p1), (3, .ref o)]) hx hb dL_join_17 hl (by decide) rfl (fun ls hl => ?_)
  refine lv_iconst (v := nI 2) hx hb dL_join_19 (by decide +kernel) ?_
  exact q_lret hx hb hr hlk rfl hP hS (by decide) (by decide) dL_join_20
set_option maxRecDepth 100000 in
set_option maxHeartbeats 4000000 in
theorem wx_join_ise (l : Launch) (D : va_G) (cA cL : ClassId) (ad : Nat → Nat) (g g2 : Nat → Nat → Int32) (z z2 : Nat → Nat) (o : Nat) (f : Nat → Int64) (p0 : Int32) (p1 : Int32) (rm : Room) (hrm : rm.cells = 1 ∧ rm.slots = 6 ∧ rm.frames ≤ 8 ∧ rm.locals ≤ 139) (hM : q_CX l yX5_join [Cond.code yX5_join cX5_join 3 (some .int)] rm D cA (.ref (ad 70) :: [.int p0, .int p1]) (rlW cA ad g z) "java/lang/IllegalStateException" (rlW cA ad g2 z2)) : q_CL l yL_join [Cond.codeWith yL_join cL_join 5 (some .int) [(0, 10, 13, 13), (0, 10, 17, 15), (0, 10, 21, 17)]] rm_L D cA cL [.ref (ad 70), .int p0, .int p1, .ref o] ((o, .inl (cL, 1, .inr (.inl f))) :: rlW cA ad g z) (nI 3) ((o, .inl (cL, 1, .inr (.inl f))) :: rlW cA ad g2 z2) := by
  refine q_startL RL (by decide +kernel) rfl (Nat.le_of_ble_eq_true rfl) ?_
  intro p e s m below meth c A args H locs ls hx hb hr hml hown hT hlk hP hK hD hA hS hl htb hX hN hZ
  have hl : lv_has ls 5 [(0, .ref (ad 70)), (1, .int p0), (2, .int p1), (3, .ref o)] := hl
  refine lv_aload_n hx hb dL_join_0 rfl (lv_at hl 3 rfl) ?_
  refine lv_iconst (v := nI 0) hx hb dL_join_1 (by decide +kernel) ?_
  refine lv_aload_n hx hb dL_join_2 rfl (lv_at hl 0 rfl) ?_
  refine lv_iload_n hx hb dL_join_3 rfl (lv_at hl 1 rfl) ?_
  refine lv_iload_n hx hb dL_join_4 rfl (lv_at hl 2 rfl) ?_
  refine q_callXC (As := [.int p0, .int p1]) (w1 := rlW cA ad g2 z2) (name := "java/lang/IllegalStateException") hx hb hml hown hT (q_kint hK) hP hD hS hA  hX hZ hM k_X5_join kl_L_57 (q0 := 0) rfl rfl rfl [(o, .inl (cL, 1, .inr (.inl f)))] [] wp_1 wp_1.symm ((rlW_adr _ _ _ _).trans (rlW_adr _ _ _ _).symm) hl rfl rfl (Nat.le_of_ble_eq_true rfl) ⟨⟨hrm.1, hrm.2.1⟩, (by show rm.frames + 1 ≤ 9; omega), (by show 8 + (3 + 11) + rm.locals ≤ 180; omega)⟩ ⟨Nat.le_of_ble_eq_true rfl, Nat.le_of_ble_eq_true rfl⟩ dL_join_5 [⟨0, 10, 13, 13⟩, ⟨0, 10, 17, 15⟩] ⟨0, 10, 21, 17⟩ [] htb (fun z hz => Or.inr (by rcases List.mem_cons.mp hz with h9 | h9; (rw [h9]; exact ⟨by decide, _, hT.use kx_L_13 args, hN.2.1⟩); (rw [List.mem_singleton.mp h9]; exact ⟨by decide, _, hT.use kx_L_15 args, hN.2.2⟩))) (by decide) (by decide) kx_L_17 q_cast_ise (fun q9 H locs hP hD hS => ?_)
  refine lv_astore (lv' := [(4, .ref q9), (0, .ref (ad 70)), (1, .int p0), (2, .int p1), (3, .ref o)]) hx hb dL_join_21 hl (by decide) rfl (fun ls hl => ?_)
  refine lv_iconst (v := nI 3) hx hb dL_join_23 (by decide +kernel) ?_
  exact q_lret hx hb hr hlk rfl hP hS (by decide) (by decide) dL_join_24
set_option maxRecDepth 100000 in
set_option maxHeartbeats 4000000 in
theorem wo_split (l : Launch) (D : va_G) (cA cL : ClassId) (ad : Nat → Nat) (g g2 : Nat → Nat → Int32) (z z2 : Nat → Nat) (o : Nat) (f : Nat → Int64) (p0 : Int32) (rm : Room) (r : Int32) (hrm : rm.cells = 0 ∧ rm.slots = 0 ∧ rm.frames ≤ 8 ∧ rm.locals ≤ 139) (hM : q_CI l yX5_split [Cond.code yX5_split cX5_split 2 (some .int)] rm D cA (.ref (ad 70) :: [.int p0]) (rlW cA ad g z) r (rlW cA ad g2 z2)) : q_CL l yL_split [Cond.codeWith yL_split cL_split 4 (some .int) [(0, 9, 12, 13), (0, 9, 15, 17)]] rm_L D cA cL [.ref (ad 70), .int p0, .ref o] ((o, .inl (cL, 1, .inr (.inl f))) :: rlW cA ad g z) (nI 0) ((o, .inl (cL, 1, .inr (.inl (vp_updL f 0 r.toInt64)))) :: rlW cA ad g2 z2) := by
  refine q_startL RL (by decide +kernel) rfl (Nat.le_of_ble_eq_true rfl) ?_
  intro p e s m below meth c A args H locs ls hx hb hr hml hown hT hlk hP hK hD hA hS hl htb hX hN hZ
  have hl : lv_has ls 4 [(0, .ref (ad 70)), (1, .int p0), (2, .ref o)] := hl
  refine lv_aload_n hx hb dL_split_0 rfl (lv_at hl 2 rfl) ?_
  refine lv_iconst (v := nI 0) hx hb dL_split_1 (by decide +kernel) ?_
  refine lv_aload_n hx hb dL_split_2 rfl (lv_at hl 0 rfl) ?_
  refine lv_iload_n hx hb dL_split_3 rfl (lv_at hl 1 rfl) ?_
  refine q_callIS (As := [.int p0]) (r := r) (w1 := rlW cA ad g2 z2) hx hb hml hown hT (q_kint hK) hP hD hS hA  hM k_X5_split kl_L_60 (q0 := 0) rfl rfl rfl [(o, .inl (cL, 1, .inr (.inl f)))] [] wp_1 wp_1.symm ((rlW_adr _ _ _ _).trans (rlW_adr _ _ _ _).symm) hl rfl rfl (Nat.le_of_ble_eq_true rfl) ⟨⟨hrm.1, hrm.2.1⟩, (by show rm.frames + 1 ≤ 9; omega), (by show 8 + (2 + 11) + rm.locals ≤ 180; omega)⟩ ⟨Nat.zero_le _, Nat.zero_le _⟩ dL_split_4 (fun H locs hP hD hS => ?_)
  refine lv_i2l (v := r.toInt64) hx hb dL_split_7 rfl ?_
  refine q_last (x := r.toInt64) (ws1 := (o, .inl (cL, 1, .inr (.inl (vp_updL f 0 r.toInt64)))) :: rlW cA ad g2 z2) hx hb hK hP hD hS 0 rfl rfl rfl dL_split_8 (fun H locs hP hD hS => ?_)
  refine lv_goto (tgt := 18) hx hb dL_split_9 (by decide) ?_
  refine lv_iconst (v := nI 0) hx hb dL_split_18 (by decide +kernel) ?_
  exact q_lret hx hb hr hlk rfl hP hS (by decide) (by decide) dL_split_19
set_option maxRecDepth 100000 in
set_option maxHeartbeats 4000000 in
theorem wx_split_iob (l : Launch) (D : va_G) (cA cL : ClassId) (ad : Nat → Nat) (g g2 : Nat → Nat → Int32) (z z2 : Nat → Nat) (o : Nat) (f : Nat → Int64) (p0 : Int32) (rm : Room) (hrm : rm.cells = 1 ∧ rm.slots = 6 ∧ rm.frames ≤ 8 ∧ rm.locals ≤ 139) (hM : q_CX l yX5_split [Cond.code yX5_split cX5_split 2 (some .int)] rm D cA (.ref (ad 70) :: [.int p0]) (rlW cA ad g z) "java/lang/IndexOutOfBoundsException" (rlW cA ad g2 z2)) : q_CL l yL_split [Cond.codeWith yL_split cL_split 4 (some .int) [(0, 9, 12, 13), (0, 9, 15, 17)]] rm_L D cA cL [.ref (ad 70), .int p0, .ref o] ((o, .inl (cL, 1, .inr (.inl f))) :: rlW cA ad g z) (nI 1) ((o, .inl (cL, 1, .inr (.inl f))) :: rlW cA ad g2 z2) := by
  refine q_startL RL (by decide +kernel) rfl (Nat.le_of_ble_eq_true rfl) ?_
  intro p e s m below meth c A args H locs ls hx hb hr hml hown hT hlk hP hK hD hA hS hl htb hX hN hZ
  have hl : lv_has ls 4 [(0, .ref (ad 70)), (1, .int p0), (2, .ref o)] := hl
  refine lv_aload_n hx hb dL_split_0 rfl (lv_at hl 2 rfl) ?_
  refine lv_iconst (v := nI 0) hx hb dL_split_1 (by decide +kernel) ?_
  refine lv_aload_n hx hb dL_split_2 rfl (lv_at hl 0 rfl) ?_
  refine lv_iload_n hx hb dL_split_3 rfl (lv_at hl 1 rfl) ?_
  refine q_callXC (As := [.int p0]) (w1 := rlW cA ad g2 z2) (name := "java/lang/IndexOutOfBoundsException") hx hb hml hown hT (q_kint hK) hP hD hS hA  hX hZ hM k_X5_split kl_L_60 (q0 := 0) rfl rfl rfl [(o, .inl (cL, 1, .inr (.inl f)))] [] wp_1 wp_1.symm ((rlW_adr _ _ _ _).trans (rlW_adr _ _ _ _).symm) hl rfl rfl (Nat.le_of_ble_eq_true rfl) ⟨⟨hrm.1, hrm.2.1⟩, (by show rm.frames + 1 ≤ 9; omega), (by show 8 + (2 + 11) + rm.locals ≤ 180; omega)⟩ ⟨Nat.le_of_ble_eq_true rfl, Nat.le_of_ble_eq_true rfl⟩ dL_split_4 [] ⟨0, 9, 12, 13⟩ [⟨0, 9, 15, 17⟩] htb (fun z hz => absurd hz List.not_mem_nil) (by decide) (by decide) kx_L_13 q_cast_iob (fun q9 H locs hP hD hS => ?_)
  refine lv_astore_n (lv' := [(3, .ref q9), (0, .ref (ad 70)), (1, .int p0), (2, .ref o)]) hx hb dL_split_12 rfl hl (by decide) rfl (fun ls hl => ?_)
  refine lv_iconst (v := nI 1) hx hb dL_split_13 (by decide +kernel) ?_
  exact q_lret hx hb hr hlk rfl hP hS (by decide) (by decide) dL_split_14
set_option maxRecDepth 100000 in
set_option maxHeartbeats 4000000 in
theorem wx_split_ise (l : Launch) (D : va_G) (cA cL : ClassId) (ad : Nat → Nat) (g g2 : Nat → Nat → Int32) (z z2 : Nat → Nat) (o : Nat) (f : Nat → Int64) (p0 : Int32) (rm : Room) (hrm : rm.cells = 1 ∧ rm.slots = 6 ∧ rm.frames ≤ 8 ∧ rm.locals ≤ 139) (hM : q_CX l yX5_split [Cond.code yX5_split cX5_split 2 (some .int)] rm D cA (.ref (ad 70) :: [.int p0]) (rlW cA ad g z) "java/lang/IllegalStateException" (rlW cA ad g2 z2)) : q_CL l yL_split [Cond.codeWith yL_split cL_split 4 (some .int) [(0, 9, 12, 13), (0, 9, 15, 17)]] rm_L D cA cL [.ref (ad 70), .int p0, .ref o] ((o, .inl (cL, 1, .inr (.inl f))) :: rlW cA ad g z) (nI 2) ((o, .inl (cL, 1, .inr (.inl f))) :: rlW cA ad g2 z2) := by
  refine q_startL RL (by decide +kernel) rfl (Nat.le_of_ble_eq_true rfl) ?_
  intro p e s m below meth c A args H locs ls hx hb hr hml hown hT hlk hP hK hD hA hS hl htb hX hN hZ
  have hl : lv_has ls 4 [(0, .ref (ad 70)), (1, .int p0), (2, .ref o)] := hl
  refine lv_aload_n hx hb dL_split_0 rfl (lv_at hl 2 rfl) ?_
  refine lv_iconst (v := nI 0) hx hb dL_split_1 (by decide +kernel) ?_
  refine lv_aload_n hx hb dL_split_2 rfl (lv_at hl 0 rfl) ?_
  refine lv_iload_n hx hb dL_split_3 rfl (lv_at hl 1 rfl) ?_
  refine q_callXC (As := [.int p0]) (w1 := rlW cA ad g2 z2) (name := "java/lang/IllegalStateException") hx hb hml hown hT (q_kint hK) hP hD hS hA  hX hZ hM k_X5_split kl_L_60 (q0 := 0) rfl rfl rfl [(o, .inl (cL, 1, .inr (.inl f)))] [] wp_1 wp_1.symm ((rlW_adr _ _ _ _).trans (rlW_adr _ _ _ _).symm) hl rfl rfl (Nat.le_of_ble_eq_true rfl) ⟨⟨hrm.1, hrm.2.1⟩, (by show rm.frames + 1 ≤ 9; omega), (by show 8 + (2 + 11) + rm.locals ≤ 180; omega)⟩ ⟨Nat.le_of_ble_eq_true rfl, Nat.le_of_ble_eq_true rfl⟩ dL_split_4 [⟨0, 9, 12, 13⟩] ⟨0, 9, 15, 17⟩ [] htb (fun z hz => Or.inr (by rw [List.mem_singleton.mp hz]; exact ⟨by decide, _, hT.use kx_L_13 args, hN.2.1⟩)) (by decide) (by decide) kx_L_17 q_cast_ise (fun q9 H locs hP hD hS => ?_)
  refine lv_astore_n (lv' := [(3, .ref q9), (0, .ref (ad 70)), (1, .int p0), (2, .ref o)]) hx hb dL_split_15 rfl hl (by decide) rfl (fun ls hl => ?_)
  refine lv_iconst (v := nI 2) hx hb dL_split_16 (by decide +kernel) ?_
  exact q_lret hx hb hr hlk rfl hP hS (by decide) (by decide) dL_split_17
set_option maxRecDepth 100000 in
set_option maxHeartbeats 4000000 in
theorem wo_person (l : Launch) (D : va_G) (cA cL : ClassId) (ad : Nat → Nat) (g g2 : Nat → Nat → Int32) (z z2 : Nat → Nat) (o : Nat) (f : Nat → Int64) (p0 : Int32) (rm : Room) (r : Int32) (hrm : rm.cells = 0 ∧ rm.slots = 0 ∧ rm.frames ≤ 8 ∧ rm.locals ≤ 139) (hM : q_CI l yX5_person [Cond.code yX5_person cX5_person 2 (some .int)] rm D cA (.ref (ad 70) :: [.int p0]) (rlW cA ad g z) r (rlW cA ad g2 z2)) : q_CL l yL_person [Cond.codeWith yL_person cL_person 4 (some .int) [(0, 9, 12, 13)]] rm_L D cA cL [.ref (ad 70), .int p0, .ref o] ((o, .inl (cL, 1, .inr (.inl f))) :: rlW cA ad g z) (nI 0) ((o, .inl (cL, 1, .inr (.inl (vp_updL f 0 r.toInt64)))) :: rlW cA ad g2 z2) := by
  refine q_startL RL (by decide +kernel) rfl (Nat.le_of_ble_eq_true rfl) ?_
  intro p e s m below meth c A args H locs ls hx hb hr hml hown hT hlk hP hK hD hA hS hl htb hX hN hZ
  have hl : lv_has ls 4 [(0, .ref (ad 70)), (1, .int p0), (2, .ref o)] := hl
  refine lv_aload_n hx hb dL_person_0 rfl (lv_at hl 2 rfl) ?_
  refine lv_iconst (v := nI 0) hx hb dL_person_1 (by decide +kernel) ?_
  refine lv_aload_n hx hb dL_person_2 rfl (lv_at hl 0 rfl) ?_
  refine lv_iload_n hx hb dL_person_3 rfl (lv_at hl 1 rfl) ?_
  refine q_callIS (As := [.int p0]) (r := r) (w1 := rlW cA ad g2 z2) hx hb hml hown hT (q_kint hK) hP hD hS hA  hM k_X5_person kl_L_64 (q0 := 0) rfl rfl rfl [(o, .inl (cL, 1, .inr (.inl f)))] [] wp_1 wp_1.symm ((rlW_adr _ _ _ _).trans (rlW_adr _ _ _ _).symm) hl rfl rfl (Nat.le_of_ble_eq_true rfl) ⟨⟨hrm.1, hrm.2.1⟩, (by show rm.frames + 1 ≤ 9; omega), (by show 8 + (2 + 11) + rm.locals ≤ 180; omega)⟩ ⟨Nat.zero_le _, Nat.zero_le _⟩ dL_person_4 (fun H locs hP hD hS => ?_)
  refine lv_i2l (v := r.toInt64) hx hb dL_person_7 rfl ?_
  refine q_last (x := r.toInt64) (ws1 := (o, .inl (cL, 1, .inr (.inl (vp_updL f 0 r.toInt64)))) :: rlW cA ad g2 z2) hx hb hK hP hD hS 0 rfl rfl rfl dL_person_8 (fun H locs hP hD hS => ?_)
  refine lv_goto (tgt := 15) hx hb dL_person_9 (by decide) ?_
  refine lv_iconst (v := nI 0) hx hb dL_person_15 (by decide +kernel) ?_
  exact q_lret hx hb hr hlk rfl hP hS (by decide) (by decide) dL_person_16
set_option maxRecDepth 100000 in
set_option maxHeartbeats 4000000 in
theorem wx_person_iob (l : Launch) (D : va_G) (cA cL : ClassId) (ad : Nat → Nat) (g g2 : Nat → Nat → Int32) (z z2 : Nat → Nat) (o : Nat) (f : Nat → Int64) (p0 : Int32) (rm : Room) (hrm : rm.cells = 1 ∧ rm.slots = 6 ∧ rm.frames ≤ 8 ∧ rm.locals ≤ 139) (hM : q_CX l yX5_person [Cond.code yX5_person cX5_person 2 (some .int)] rm D cA (.ref (ad 70) :: [.int p0]) (rlW cA ad g z) "java/lang/IndexOutOfBoundsException" (rlW cA ad g2 z2)) : q_CL l yL_person [Cond.codeWith yL_person cL_person 4 (some .int) [(0, 9, 12, 13)]] rm_L D cA cL [.ref (ad 70), .int p0, .ref o] ((o, .inl (cL, 1, .inr (.inl f))) :: rlW cA ad g z) (nI 1) ((o, .inl (cL, 1, .inr (.inl f))) :: rlW cA ad g2 z2) := by
  refine q_startL RL (by decide +kernel) rfl (Nat.le_of_ble_eq_true rfl) ?_
  intro p e s m below meth c A args H locs ls hx hb hr hml hown hT hlk hP hK hD hA hS hl htb hX hN hZ
  have hl : lv_has ls 4 [(0, .ref (ad 70)), (1, .int p0), (2, .ref o)] := hl
  refine lv_aload_n hx hb dL_person_0 rfl (lv_at hl 2 rfl) ?_
  refine lv_iconst (v := nI 0) hx hb dL_person_1 (by decide +kernel) ?_
  refine lv_aload_n hx hb dL_person_2 rfl (lv_at hl 0 rfl) ?_
  refine lv_iload_n hx hb dL_person_3 rfl (lv_at hl 1 rfl) ?_
  refine q_callXC (As := [.int p0]) (w1 := rlW cA ad g2 z2) (name := "java/lang/IndexOutOfBoundsException") hx hb hml hown hT (q_kint hK) hP hD hS hA  hX hZ hM k_X5_person kl_L_64 (q0 := 0) rfl rfl rfl [(o, .inl (cL, 1, .inr (.inl f)))] [] wp_1 wp_1.symm ((rlW_adr _ _ _ _).trans (rlW_adr _ _ _ _).symm) hl rfl rfl (Nat.le_of_ble_eq_true rfl) ⟨⟨hrm.1, hrm.2.1⟩, (by show rm.frames + 1 ≤ 9; omega), (by show 8 + (2 + 11) + rm.locals ≤ 180; omega)⟩ ⟨Nat.le_of_ble_eq_true rfl, Nat.le_of_ble_eq_true rfl⟩ dL_person_4 [] ⟨0, 9, 12, 13⟩ [] htb (fun z hz => absurd hz List.not_mem_nil) (by decide) (by decide) kx_L_13 q_cast_iob (fun q9 H locs hP hD hS => ?_)
  refine lv_astore_n (lv' := [(3, .ref q9), (0, .ref (ad 70)), (1, .int p0), (2, .ref o)]) hx hb dL_person_12 rfl hl (by decide) rfl (fun ls hl => ?_)
  refine lv_iconst (v := nI 1) hx hb dL_person_13 (by decide +kernel) ?_
  exact q_lret hx hb hr hlk rfl hP hS (by decide) (by decide) dL_person_14
set_option maxRecDepth 100000 in
set_option maxHeartbeats 4000000 in
theorem wo_entry (l : Launch) (D : va_G) (cA cL : ClassId) (ad : Nat → Nat) (g g2 : Nat → Nat → Int32) (z z2 : Nat → Nat) (o : Nat) (f : Nat → Int64) (p0 : Int32) (rm : Room) (r : Int32) (hrm : rm.cells = 0 ∧ rm.slots = 0 ∧ rm.frames ≤ 8 ∧ rm.locals ≤ 139) (hM : q_CI l yX5_entry [Cond.code yX5_entry cX5_entry 2 (some .int)] rm D cA (.ref (ad 70) :: [.int p0]) (rlW cA ad g z) r (rlW cA ad g2 z2)) : q_CL l yL_entry [Cond.codeWith yL_entry cL_entry 4 (some .int) [(0, 9, 12, 13)]] rm_L D cA cL [.ref (ad 70), .int p0, .ref o] ((o, .inl (cL, 1, .inr (.inl f))) :: rlW cA ad g z) (nI 0) ((o, .inl (cL, 1, .inr (.inl (vp_updL f 0 r.toInt64)))) :: rlW cA ad g2 z2) := by
  refine q_startL RL (by decide +kernel) rfl (Nat.le_of_ble_eq_true rfl) ?_
  intro p e s m below meth c A args H locs ls hx hb hr hml hown hT hlk hP hK hD hA hS hl htb hX hN hZ
  have hl : lv_has ls 4 [(0, .ref (ad 70)), (1, .int p0), (2, .ref o)] := hl
  refine lv_aload_n hx hb dL_entry_0 rfl (lv_at hl 2 rfl) ?_
  refine lv_iconst (v := nI 0) hx hb dL_entry_1 (by decide +kernel) ?_
  refine lv_aload_n hx hb dL_entry_2 rfl (lv_at hl 0 rfl) ?_
  refine lv_iload_n hx hb dL_entry_3 rfl (lv_at hl 1 rfl) ?_
  refine q_callIS (As := [.int p0]) (r := r) (w1 := rlW cA ad g2 z2) hx hb hml hown hT (q_kint hK) hP hD hS hA  hM k_X5_entry kl_L_67 (q0 := 0) rfl rfl rfl [(o, .inl (cL, 1, .inr (.inl f)))] [] wp_1 wp_1.symm ((rlW_adr _ _ _ _).trans (rlW_adr _ _ _ _).symm) hl rfl rfl (Nat.le_of_ble_eq_true rfl) ⟨⟨hrm.1, hrm.2.1⟩, (by show rm.frames + 1 ≤ 9; omega), (by show 8 + (2 + 11) + rm.locals ≤ 180; omega)⟩ ⟨Nat.zero_le _, Nat.zero_le _⟩ dL_entry_4 (fun H locs hP hD hS => ?_)
  refine lv_i2l (v := r.toInt64) hx hb dL_entry_7 rfl ?_
  refine q_last (x := r.toInt64) (ws1 := (o, .inl (cL, 1, .inr (.inl (vp_updL f 0 r.toInt64)))) :: rlW cA ad g2 z2) hx hb hK hP hD hS 0 rfl rfl rfl dL_entry_8 (fun H locs hP hD hS => ?_)
  refine lv_goto (tgt := 15) hx hb dL_entry_9 (by decide) ?_
  refine lv_iconst (v := nI 0) hx hb dL_entry_15 (by decide +kernel) ?_
  exact q_lret hx hb hr hlk rfl hP hS (by decide) (by decide) dL_entry_16
set_option maxRecDepth 100000 in
set_option maxHeartbeats 4000000 in
theorem wx_entry_iob (l : Launch) (D : va_G) (cA cL : ClassId) (ad : Nat → Nat) (g g2 : Nat → Nat → Int32) (z z2 : Nat → Nat) (o : Nat) (f : Nat → Int64) (p0 : Int32) (rm : Room) (hrm : rm.cells = 1 ∧ rm.slots = 6 ∧ rm.frames ≤ 8 ∧ rm.locals ≤ 139) (hM : q_CX l yX5_entry [Cond.code yX5_entry cX5_entry 2 (some .int)] rm D cA (.ref (ad 70) :: [.int p0]) (rlW cA ad g z) "java/lang/IndexOutOfBoundsException" (rlW cA ad g2 z2)) : q_CL l yL_entry [Cond.codeWith yL_entry cL_entry 4 (some .int) [(0, 9, 12, 13)]] rm_L D cA cL [.ref (ad 70), .int p0, .ref o] ((o, .inl (cL, 1, .inr (.inl f))) :: rlW cA ad g z) (nI 1) ((o, .inl (cL, 1, .inr (.inl f))) :: rlW cA ad g2 z2) := by
  refine q_startL RL (by decide +kernel) rfl (Nat.le_of_ble_eq_true rfl) ?_
  intro p e s m below meth c A args H locs ls hx hb hr hml hown hT hlk hP hK hD hA hS hl htb hX hN hZ
  have hl : lv_has ls 4 [(0, .ref (ad 70)), (1, .int p0), (2, .ref o)] := hl
  refine lv_aload_n hx hb dL_entry_0 rfl (lv_at hl 2 rfl) ?_
  refine lv_iconst (v := nI 0) hx hb dL_entry_1 (by decide +kernel) ?_
  refine lv_aload_n hx hb dL_entry_2 rfl (lv_at hl 0 rfl) ?_
  refine lv_iload_n hx hb dL_entry_3 rfl (lv_at hl 1 rfl) ?_
  refine q_callXC (As := [.int p0]) (w1 := rlW cA ad g2 z2) (name := "java/lang/IndexOutOfBoundsException") hx hb hml hown hT (q_kint hK) hP hD hS hA  hX hZ hM k_X5_entry kl_L_67 (q0 := 0) rfl rfl rfl [(o, .inl (cL, 1, .inr (.inl f)))] [] wp_1 wp_1.symm ((rlW_adr _ _ _ _).trans (rlW_adr _ _ _ _).symm) hl rfl rfl (Nat.le_of_ble_eq_true rfl) ⟨⟨hrm.1, hrm.2.1⟩, (by show rm.frames + 1 ≤ 9; omega), (by show 8 + (2 + 11) + rm.locals ≤ 180; omega)⟩ ⟨Nat.le_of_ble_eq_true rfl, Nat.le_of_ble_eq_true rfl⟩ dL_entry_4 [] ⟨0, 9, 12, 13⟩ [] htb (fun z hz => absurd hz List.not_mem_nil) (by decide) (by decide) kx_L_13 q_cast_iob (fun q9 H locs hP hD hS => ?_)
  refine lv_astore_n (lv' := [(3, .ref q9), (0, .ref (ad 70)), (1, .int p0), (2, .ref o)]) hx hb dL_entry_12 rfl hl (by decide) rfl (fun ls hl => ?_)
  refine lv_iconst (v := nI 1) hx hb dL_entry_13 (by decide +kernel) ?_
  exact q_lret hx hb hr hlk rfl hP hS (by decide) (by decide) dL_entry_14
set_option maxRecDepth 100000 in
set_option maxHeartbeats 4000000 in
theorem wo_size (l : Launch) (D : va_G) (cA cL : ClassId) (ad : Nat → Nat) (g g2 : Nat → Nat → Int32) (z z2 : Nat → Nat) (o : Nat) (f : Nat → Int64) (p0 : Int32) (rm : Room) (r : Int32) (hrm : rm.cells = 0 ∧ rm.slots = 0 ∧ rm.frames ≤ 8 ∧ rm.locals ≤ 139) (hM : q_CI l yX5_size [Cond.code yX5_size cX5_size 2 (some .int)] rm D cA (.ref (ad 70) :: [.int p0]) (rlW cA ad g z) r (rlW cA ad g2 z2)) : q_CL l yL_size [Cond.codeWith yL_size cL_size 4 (some .int) [(0, 9, 12, 13)]] rm_L D cA cL [.ref (ad 70), .int p0, .ref o] ((o, .inl (cL, 1, .inr (.inl f))) :: rlW cA ad g z) (nI 0) ((o, .inl (cL, 1, .inr (.inl (vp_updL f 0 r.toInt64)))) :: rlW cA ad g2 z2) := by
  refine q_startL RL (by decide +kernel) rfl (Nat.le_of_ble_eq_true rfl) ?_
  intro p e s m below meth c A args H locs ls hx hb hr hml hown hT hlk hP hK hD hA hS hl htb hX hN hZ
  have hl : lv_has ls 4 [(0, .ref (ad 70)), (1, .int p0), (2, .ref o)] := hl
  refine lv_aload_n hx hb dL_size_0 rfl (lv_at hl 2 rfl) ?_
  refine lv_iconst (v := nI 0) hx hb dL_size_1 (by decide +kernel) ?_
  refine lv_aload_n hx hb dL_size_2 rfl (lv_at hl 0 rfl) ?_
  refine lv_iload_n hx hb dL_size_3 rfl (lv_at hl 1 rfl) ?_
  refine q_callIS (As := [.int p0]) (r := r) (w1 := rlW cA ad g2 z2) hx hb hml hown hT (q_kint hK) hP hD hS hA  hM k_X5_size kl_L_70 (q0 := 0) rfl rfl rfl [(o, .inl (cL, 1, .inr (.inl f)))] [] wp_1 wp_1.symm ((rlW_adr _ _ _ _).trans (rlW_adr _ _ _ _).symm) hl rfl rfl (Nat.le_of_ble_eq_true rfl) ⟨⟨hrm.1, hrm.2.1⟩, (by show rm.frames + 1 ≤ 9; omega), (by show 8 + (2 + 11) + rm.locals ≤ 180; omega)⟩ ⟨Nat.zero_le _, Nat.zero_le _⟩ dL_size_4 (fun H locs hP hD hS => ?_)
  refine lv_i2l (v := r.toInt64) hx hb dL_size_7 rfl ?_
  refine q_last (x := r.toInt64) (ws1 := (o, .inl (cL, 1, .inr (.inl (vp_updL f 0 r.toInt64)))) :: rlW cA ad g2 z2) hx hb hK hP hD hS 0 rfl rfl rfl dL_size_8 (fun H locs hP hD hS => ?_)
  refine lv_goto (tgt := 15) hx hb dL_size_9 (by decide) ?_
  refine lv_iconst (v := nI 0) hx hb dL_size_15 (by decide +kernel) ?_
  exact q_lret hx hb hr hlk rfl hP hS (by decide) (by decide) dL_size_16
set_option maxRecDepth 100000 in
set_option maxHeartbeats 4000000 in
theorem wx_size_iob (l : Launch) (D : va_G) (cA cL : ClassId) (ad : Nat → Nat) (g g2 : Nat → Nat → Int32) (z z2 : Nat → Nat) (o : Nat) (f : Nat → Int64) (p0 : Int32) (rm : Room) (hrm : rm.cells = 1 ∧ rm.slots = 6 ∧ rm.frames ≤ 8 ∧ rm.locals ≤ 139) (hM : q_CX l yX5_size [Cond.code yX5_size cX5_size 2 (some .int)] rm D cA (.ref (ad 70) :: [.int p0]) (rlW cA ad g z) "java/lang/IndexOutOfBoundsException" (rlW cA ad g2 z2)) : q_CL l yL_size [Cond.codeWith yL_size cL_size 4 (some .int) [(0, 9, 12, 13)]] rm_L D cA cL [.ref (ad 70), .int p0, .ref o] ((o, .inl (cL, 1, .inr (.inl f))) :: rlW cA ad g z) (nI 1) ((o, .inl (cL, 1, .inr (.inl f))) :: rlW cA ad g2 z2) := by
  refine q_startL RL (by decide +kernel) rfl (Nat.le_of_ble_eq_true rfl) ?_
  intro p e s m below meth c A args H locs ls hx hb hr hml hown hT hlk hP hK hD hA hS hl htb hX hN hZ
  have hl : lv_has ls 4 [(0, .ref (ad 70)), (1, .int p0), (2, .ref o)] := hl
  refine lv_aload_n hx hb dL_size_0 rfl (lv_at hl 2 rfl) ?_
  refine lv_iconst (v := nI 0) hx hb dL_size_1 (by decide +kernel) ?_
  refine lv_aload_n hx hb dL_size_2 rfl (lv_at hl 0 rfl) ?_
  refine lv_iload_n hx hb dL_size_3 rfl (lv_at hl 1 rfl) ?_
  refine q_callXC (As := [.int p0]) (w1 := rlW cA ad g2 z2) (name := "java/lang/IndexOutOfBoundsException") hx hb hml hown hT (q_kint hK) hP hD hS hA  hX hZ hM k_X5_size kl_L_70 (q0 := 0) rfl rfl rfl [(o, .inl (cL, 1, .inr (.inl f)))] [] wp_1 wp_1.symm ((rlW_adr _ _ _ _).trans (rlW_adr _ _ _ _).symm) hl rfl rfl (Nat.le_of_ble_eq_true rfl) ⟨⟨hrm.1, hrm.2.1⟩, (by show rm.frames + 1 ≤ 9; omega), (by show 8 + (2 + 11) + rm.locals ≤ 180; omega)⟩ ⟨Nat.le_of_ble_eq_true rfl, Nat.le_of_ble_eq_true rfl⟩ dL_size_4 [] ⟨0, 9, 12, 13⟩ [] htb (fun z hz => absurd hz List.not_mem_nil) (by decide) (by decide) kx_L_13 q_cast_iob (fun q9 H locs hP hD hS => ?_)
  refine lv_astore_n (lv' := [(3, .ref q9), (0, .ref (ad 70)), (1, .int p0), (2, .ref o)]) hx hb dL_size_12 rfl hl (by decide) rfl (fun ls hl => ?_)
  refine lv_iconst (v := nI 1) hx hb dL_size_13 (by decide +kernel) ?_
  exact q_lret hx hb hr hlk rfl hP hS (by decide) (by decide) dL_size_14
set_option maxRecDepth 100000 in
set_option maxHeartbeats 4000000 in
theorem wo_careerAt (l : Launch) (D : va_G) (cA cL : ClassId) (ad : Nat → Nat) (g g2 : Nat → Nat → Int32) (z z2 : Nat → Nat) (o : Nat) (f : Nat → Int64) (p0 : Int32) (p1 : Int32) (rm : Room) (r : Int32) (hrm : rm.cells = 0 ∧ rm.slots = 0 ∧ rm.frames ≤ 8 ∧ rm.locals ≤ 139) (hM : q_CI l yX5_careerAt [Cond.code yX5_careerAt cX5_careerAt 4 (some .int)] rm D cA (.ref (ad 70) :: [.int p0, .int p1]) (rlW cA ad g z) r (rlW cA ad g2 z2)) : q_CL l yL_careerAt [Cond.codeWith yL_careerAt cL_careerAt 5 (some .int) [(0, 10, 13, 13)]] rm_L D cA cL [.ref (ad 70), .int p0, .int p1, .ref o] ((o, .inl (cL, 1, .inr (.inl f))) :: rlW cA ad g z) (nI 0) ((o, .inl (cL, 1, .inr (.inl (vp_updL f 0 r.toInt64)))) :: rlW cA ad g2 z2) := by
  refine q_startL RL (by decide +kernel) rfl (Nat.le_of_ble_eq_true rfl) ?_
  intro p e s m below meth c A args H locs ls hx hb hr hml hown hT hlk hP hK hD hA hS hl htb hX hN hZ
  have hl : lv_has ls 5 [(0, .ref (ad 70)), (1, .int p0), (2, .int p1), (3, .ref o)] := hl
  refine lv_aload_n hx hb dL_careerAt_0 rfl (lv_at hl 3 rfl) ?_
  refine lv_iconst (v := nI 0) hx hb dL_careerAt_1 (by decide +kernel) ?_
  refine lv_aload_n hx hb dL_careerAt_2 rfl (lv_at hl 0 rfl) ?_
  refine lv_iload_n hx hb dL_careerAt_3 rfl (lv_at hl 1 rfl) ?_
  refine lv_iload_n hx hb dL_careerAt_4 rfl (lv_at hl 2 rfl) ?_
  refine q_callIS (As := [.int p0, .int p1]) (r := r) (w1 := rlW cA ad g2 z2) hx hb hml hown hT (q_kint hK) hP hD hS hA  hM k_X5_careerAt kl_L_73 (q0 := 0) rfl rfl rfl [(o, .inl (cL, 1, .inr (.inl f)))] [] wp_1 wp_1.symm ((rlW_adr _ _ _ _).trans (rlW_adr _ _ _ _).symm) hl rfl rfl (Nat.le_of_ble_eq_true rfl) ⟨⟨hrm.1, hrm.2.1⟩, (by show rm.frames + 1 ≤ 9; omega), (by show 8 + (4 + 11) + rm.locals ≤ 180; omega)⟩ ⟨Nat.zero_le _, Nat.zero_le _⟩ dL_careerAt_5 (fun H locs hP hD hS => ?_)
  refine lv_i2l (v := r.toInt64) hx hb dL_careerAt_8 rfl ?_
  refine q_last (x := r.toInt64) (ws1 := (o, .inl (cL, 1, .inr (.inl (vp_updL f 0 r.toInt64)))) :: rlW cA ad g2 z2) hx hb hK hP hD hS 0 rfl rfl rfl dL_careerAt_9 (fun H locs hP hD hS => ?_)
  refine lv_goto (tgt := 17) hx hb dL_careerAt_10 (by decide) ?_
  refine lv_iconst (v := nI 0) hx hb dL_careerAt_17 (by decide +kernel) ?_
  exact q_lret hx hb hr hlk rfl hP hS (by decide) (by decide) dL_careerAt_18
set_option maxRecDepth 100000 in
set_option maxHeartbeats 4000000 in
theorem wx_careerAt_iob (l : Launch) (D : va_G) (cA cL : ClassId) (ad : Nat → Nat) (g g2 : Nat → Nat → Int32) (z z2 : Nat → Nat) (o : Nat) (f : Nat → Int64) (p0 : Int32) (p1 : Int32) (rm : Room) (hrm : rm.cells = 1 ∧ rm.slots = 6 ∧ rm.frames ≤ 8 ∧ rm.locals ≤ 139) (hM : q_CX l yX5_careerAt [Cond.code yX5_careerAt cX5_careerAt 4 (some .int)] rm D cA (.ref (ad 70) :: [.int p0, .int p1]) (rlW cA ad g z) "java/lang/IndexOutOfBoundsException" (rlW cA ad g2 z2)) : q_CL l yL_careerAt [Cond.codeWith yL_careerAt cL_careerAt 5 (some .int) [(0, 10, 13, 13)]] rm_L D cA cL [.ref (ad 70), .int p0, .int p1, .ref o] ((o, .inl (cL, 1, .inr (.inl f))) :: rlW cA ad g z) (nI 1) ((o, .inl (cL, 1, .inr (.inl f))) :: rlW cA ad g2 z2) := by
  refine q_startL RL (by decide +kernel) rfl (Nat.le_of_ble_eq_true rfl) ?_
  intro p e s m below meth c A args H locs ls hx hb hr hml hown hT hlk hP hK hD hA hS hl htb hX hN hZ
  have hl : lv_has ls 5 [(0, .ref (ad 70)), (1, .int p0), (2, .int p1), (3, .ref o)] := hl
  refine lv_aload_n hx hb dL_careerAt_0 rfl (lv_at hl 3 rfl) ?_
  refine lv_iconst (v := nI 0) hx hb dL_careerAt_1 (by decide +kernel) ?_
  refine lv_aload_n hx hb dL_careerAt_2 rfl (lv_at hl 0 rfl) ?_
  refine lv_iload_n hx hb dL_careerAt_3 rfl (lv_at hl 1 rfl) ?_
  refine lv_iload_n hx hb dL_careerAt_4 rfl (lv_at hl 2 rfl) ?_
  refine q_callXC (As := [.int p0, .int p1]) (w1 := rlW cA ad g2 z2) (name := "java/lang/IndexOutOfBoundsException") hx hb hml hown hT (q_kint hK) hP hD hS hA  hX hZ hM k_X5_careerAt kl_L_73 (q0 := 0) rfl rfl rfl [(o, .inl (cL, 1, .inr (.inl f)))] [] wp_1 wp_1.symm ((rlW_adr _ _ _ _).trans (rlW_adr _ _ _ _).symm) hl rfl rfl (Nat.le_of_ble_eq_true rfl) ⟨⟨hrm.1, hrm.2.1⟩, (by show rm.frames + 1 ≤ 9; omega), (by show 8 + (4 + 11) + rm.locals ≤ 180; omega)⟩ ⟨Nat.le_of_ble_eq_true rfl, Nat.le_of_ble_eq_true rfl⟩ dL_careerAt_5 [] ⟨0, 10, 13, 13⟩ [] htb (fun z hz => absurd hz List.not_mem_nil) (by decide) (by decide) kx_L_13 q_cast_iob (fun q9 H locs hP hD hS => ?_)
  refine lv_astore (lv' := [(4, .ref q9), (0, .ref (ad 70)), (1, .int p0), (2, .int p1), (3, .ref o)]) hx hb dL_careerAt_13 hl (by decide) rfl (fun ls hl => ?_)
  refine lv_iconst (v := nI 1) hx hb dL_careerAt_15 (by decide +kernel) ?_
  exact q_lret hx hb hr hlk rfl hP hS (by decide) (by decide) dL_careerAt_16
set_option maxRecDepth 100000 in
set_option maxHeartbeats 4000000 in
theorem wo_breaches (l : Launch) (D : va_G) (cA cL : ClassId) (ad : Nat → Nat) (g g2 : Nat → Nat → Int32) (z z2 : Nat → Nat) (o : Nat) (f : Nat → Int64) (p0 : Int32) (rm : Room) (r : Int32) (hrm : rm.cells = 0 ∧ rm.slots = 0 ∧ rm.frames ≤ 8 ∧ rm.locals ≤ 139) (hM : q_CI l yX5_breaches [Cond.code yX5_breaches cX5_breaches 5 (some .int)] rm D cA (.ref (ad 70) :: [.int p0]) (rlW cA ad g z) r (rlW cA ad g2 z2)) : q_CL l yL_breaches [Cond.codeWith yL_breaches cL_breaches 4 (some .int) [(0, 9, 12, 13)]] rm_L D cA cL [.ref (ad 70), .int p0, .ref o] ((o, .inl (cL, 1, .inr (.inl f))) :: rlW cA ad g z) (nI 0) ((o, .inl (cL, 1, .inr (.inl (vp_updL f 0 r.toInt64)))) :: rlW cA ad g2 z2) := by
  refine q_startL RL (by decide +kernel) rfl (Nat.le_of_ble_eq_true rfl) ?_
  intro p e s m below meth c A args H locs ls hx hb hr hml hown hT hlk hP hK hD hA hS hl htb hX hN hZ
  have hl : lv_has ls 4 [(0, .ref (ad 70)), (1, .int p0), (2, .ref o)] := hl
  refine lv_aload_n hx hb dL_breaches_0 rfl (lv_at hl 2 rfl) ?_
  refine lv_iconst (v := nI 0) hx hb dL_breaches_1 (by decide +kernel) ?_
  refine lv_aload_n hx hb dL_breaches_2 rfl (lv_at hl 0 rfl) ?_
  refine lv_iload_n hx hb dL_breaches_3 rfl (lv_at hl 1 rfl) ?_
  refine q_callIS (As := [.int p0]) (r := r) (w1 := rlW cA ad g2 z2) hx hb hml hown hT (q_kint hK) hP hD hS hA  hM k_X5_breaches kl_L_76 (q0 := 0) rfl rfl rfl [(o, .inl (cL, 1, .inr (.inl f)))] [] wp_1 wp_1.symm ((rlW_adr _ _ _ _).trans (rlW_adr _ _ _ _).symm) hl rfl rfl (Nat.le_of_ble_eq_true rfl) ⟨⟨hrm.1, hrm.2.1⟩, (by show rm.frames + 1 ≤ 9; omega), (by show 8 + (5 + 11) + rm.locals ≤ 180; omega)⟩ ⟨Nat.zero_le _, Nat.zero_le _⟩ dL_breaches_4 (fun H locs hP hD hS => ?_)
  refine lv_i2l (v := r.toInt64) hx hb dL_breaches_7 rfl ?_
  refine q_last (x := r.toInt64) (ws1 := (o, .inl (cL, 1, .inr (.inl (vp_updL f 0 r.toInt64)))) :: rlW cA ad g2 z2) hx hb hK hP hD hS 0 rfl rfl rfl dL_breaches_8 (fun H locs hP hD hS => ?_)
  refine lv_goto (tgt := 15) hx hb dL_breaches_9 (by decide) ?_
  refine lv_iconst (v := nI 0) hx hb dL_breaches_15 (by decide +kernel) ?_
  exact q_lret hx hb hr hlk rfl hP hS (by decide) (by decide) dL_breaches_16
set_option maxRecDepth 100000 in
set_option maxHeartbeats 4000000 in
theorem wx_breaches_iob (l : Launch) (D : va_G) (cA cL : ClassId) (ad : Nat → Nat) (g g2 : Nat → Nat → Int32) (z z2 : Nat → Nat) (o : Nat) (f : Nat → Int64) (p0 : Int32) (rm : Room) (hrm : rm.cells = 1 ∧ rm.slots = 6 ∧ rm.frames ≤ 8 ∧ rm.locals ≤ 139) (hM : q_CX l yX5_breaches [Cond.code yX5_breaches cX5_breaches 5 (some .int)] rm D cA (.ref (ad 70) :: [.int p0]) (rlW cA ad g z) "java/lang/IndexOutOfBoundsException" (rlW cA ad g2 z2)) : q_CL l yL_breaches [Cond.codeWith yL_breaches cL_breaches 4 (some .int) [(0, 9, 12, 13)]] rm_L D cA cL [.ref (ad 70), .int p0, .ref o] ((o, .inl (cL, 1, .inr (.inl f))) :: rlW cA ad g z) (nI 1) ((o, .inl (cL, 1, .inr (.inl f))) :: rlW cA ad g2 z2) := by
  refine q_startL RL (by decide +kernel) rfl (Nat.le_of_ble_eq_true rfl) ?_
  intro p e s m below meth c A args H locs ls hx hb hr hml hown hT hlk hP hK hD hA hS hl htb hX hN hZ
  have hl : lv_has ls 4 [(0, .ref (ad 70)), (1, .int p0), (2, .ref o)] := hl
  refine lv_aload_n hx hb dL_breaches_0 rfl (lv_at hl 2 rfl) ?_
  refine lv_iconst (v := nI 0) hx hb dL_breaches_1 (by decide +kernel) ?_
  refine lv_aload_n hx hb dL_breaches_2 rfl (lv_at hl 0 rfl) ?_
  refine lv_iload_n hx hb dL_breaches_3 rfl (lv_at hl 1 rfl) ?_
  refine q_callXC (As := [.int p0]) (w1 := rlW cA ad g2 z2) (name := "java/lang/IndexOutOfBoundsException") hx hb hml hown hT (q_kint hK) hP hD hS hA  hX hZ hM k_X5_breaches kl_L_76 (q0 := 0) rfl rfl rfl [(o, .inl (cL, 1, .inr (.inl f)))] [] wp_1 wp_1.symm ((rlW_adr _ _ _ _).trans (rlW_adr _ _ _ _).symm) hl rfl rfl (Nat.le_of_ble_eq_true rfl) ⟨⟨hrm.1, hrm.2.1⟩, (by show rm.frames + 1 ≤ 9; omega), (by show 8 + (5 + 11) + rm.locals ≤ 180; omega)⟩ ⟨Nat.le_of_ble_eq_true rfl, Nat.le_of_ble_eq_true rfl⟩ dL_breaches_4 [] ⟨0, 9, 12, 13⟩ [] htb (fun z hz => absurd hz List.not_mem_nil) (by decide) (by decide) kx_L_13 q_cast_iob (fun q9 H locs hP hD hS => ?_)
  refine lv_astore_n (lv' := [(3, .ref q9), (0, .ref (ad 70)), (1, .int p0), (2, .ref o)]) hx hb dL_breaches_12 rfl hl (by decide) rfl (fun ls hl => ?_)
  refine lv_iconst (v := nI 1) hx hb dL_breaches_13 (by decide +kernel) ?_
  exact q_lret hx hb hr hlk rfl hP hS (by decide) (by decide) dL_breaches_14
set_option maxRecDepth 100000 in
set_option maxHeartbeats 4000000 in
theorem wo_kin (l : Launch) (D : va_G) (cA cL : ClassId) (ad : Nat → Nat) (g g2 : Nat → Nat → Int32) (z z2 : Nat → Nat) (o : Nat) (f : Nat → Int64) (p0 : Int32) (p1 : Int32) (rm : Room) (bb : Bool) (hrm : rm.cells = 0 ∧ rm.slots = 0 ∧ rm.frames ≤ 8 ∧ rm.locals ≤ 139) (hM : q_CI l yX5_kin [Cond.code yX5_kin cX5_kin 3 (some .boolean)] rm D cA (.ref (ad 70) :: [.int p0, .int p1]) (rlW cA ad g z) (q_b bb) (rlW cA ad g2 z2)) : q_CL l yL_kin [Cond.codeWith yL_kin cL_kin 5 (some .int) [(0, 17, 20, 13), (0, 17, 24, 15)]] rm_L D cA cL [.ref (ad 70), .int p0, .int p1, .ref o] ((o, .inl (cL, 1, .inr (.inl f))) :: rlW cA ad g z) (nI 0) ((o, .inl (cL, 1, .inr (.inl (vp_updL f 0 (q_L bb))))) :: rlW cA ad g2 z2) := by
  refine q_startL RL (by decide +kernel) rfl (Nat.le_of_ble_eq_true rfl) ?_
  intro p e s m below meth c A args H locs ls hx hb hr hml hown hT hlk hP hK hD hA hS hl htb hX hN hZ
  have hl : lv_has ls 5 [(0, .ref (ad 70)), (1, .int p0), (2, .int p1), (3, .ref o)] := hl
  refine lv_aload_n hx hb dL_kin_0 rfl (lv_at hl 3 rfl) ?_
  refine lv_iconst (v := nI 0) hx hb dL_kin_1 (by decide +kernel) ?_
  refine lv_aload_n hx hb dL_kin_2 rfl (lv_at hl 0 rfl) ?_
  refine lv_iload_n hx hb dL_kin_3 rfl (lv_at hl 1 rfl) ?_
  refine lv_iload_n hx hb dL_kin_4 rfl (lv_at hl 2 rfl) ?_
  refine q_callIS (As := [.int p0, .int p1]) (r := (q_b bb)) (w1 := rlW cA ad g2 z2) hx hb hml hown hT (q_kint hK) hP hD hS hA  hM k_X5_kin kl_L_79 (q0 := 0) rfl rfl rfl [(o, .inl (cL, 1, .inr (.inl f)))] [] wp_1 wp_1.symm ((rlW_adr _ _ _ _).trans (rlW_adr _ _ _ _).symm) hl rfl rfl (Nat.le_of_ble_eq_true rfl) ⟨⟨hrm.1, hrm.2.1⟩, (by show rm.frames + 1 ≤ 9; omega), (by show 8 + (3 + 11) + rm.locals ≤ 180; omega)⟩ ⟨Nat.zero_le _, Nat.zero_le _⟩ dL_kin_5 (fun H locs hP hD hS => ?_)
  refine lv_if_eq (tgt := 15) hx hb dL_kin_8 (by decide) (fun c9 => ?_) (fun c9 => ?_)
  · have c9 := q_b0e c9
    subst c9
    refine lv_lconst (v := q_L false) hx hb dL_kin_15 (by decide +kernel) ?_
    refine q_last (x := q_L false) (ws1 := (o, .inl (cL, 1, .inr (.inl (vp_updL f 0 (q_L false))))) :: rlW cA ad g2 z2) hx hb hK hP hD hS 0 rfl rfl rfl dL_kin_16 (fun H locs hP hD hS => ?_)
    refine lv_goto (tgt := 28) hx hb dL_kin_17 (by decide) ?_
    refine lv_iconst (v := nI 0) hx hb dL_kin_28 (by decide +kernel) ?_
    exact q_lret hx hb hr hlk rfl hP hS (by decide) (by decide) dL_kin_29
  · have c9 := q_b0n c9
    subst c9
    refine lv_lconst (v := q_L true) hx hb dL_kin_11 (by decide +kernel) ?_
    refine lv_goto (tgt := 16) hx hb dL_kin_12 (by decide) ?_
    refine q_last (x := q_L true) (ws1 := (o, .inl (cL, 1, .inr (.inl (vp_updL f 0 (q_L true))))) :: rlW cA ad g2 z2) hx hb hK hP hD hS 0 rfl rfl rfl dL_kin_16 (fun H locs hP hD hS => ?_)
    refine lv_goto (tgt := 28) hx hb dL_kin_17 (by decide) ?_
    refine lv_iconst (v := nI 0) hx hb dL_kin_28 (by decide +kernel) ?_
    exact q_lret hx hb hr hlk rfl hP hS (by decide) (by decide) dL_kin_29
set_option maxRecDepth 100000 in
set_option maxHeartbeats 4000000 in
theorem wx_kin_iob (l : Launch) (D : va_G) (cA cL : ClassId) (ad : Nat → Nat) (g g2 : Nat → Nat → Int32) (z z2 : Nat → Nat) (o : Nat) (f : Nat → Int64) (p0 : Int32) (p1 : Int32) (rm : Room) (hrm : rm.cells = 1 ∧ rm.slots = 6 ∧ rm.frames ≤ 8 ∧ rm.locals ≤ 139) (hM : q_CX l yX5_kin [Cond.code yX5_kin cX5_kin 3 (some .boolean)] rm D cA (.ref (ad 70) :: [.int p0, .int p1]) (rlW cA ad g z) "java/lang/IndexOutOfBoundsException" (rlW cA ad g2 z2)) : q_CL l yL_kin [Cond.codeWith yL_kin cL_kin 5 (some .int) [(0, 17, 20, 13), (0, 17, 24, 15)]] rm_L D cA cL [.ref (ad 70), .int p0, .int p1, .ref o] ((o, .inl (cL, 1, .inr (.inl f))) :: rlW cA ad g z) (nI 1) ((o, .inl (cL, 1, .inr (.inl f))) :: rlW cA ad g2 z2) := by
  refine q_startL RL (by decide +kernel) rfl (Nat.le_of_ble_eq_true rfl) ?_
  intro p e s m below meth c A args H locs ls hx hb hr hml hown hT hlk hP hK hD hA hS hl htb hX hN hZ
  have hl : lv_has ls 5 [(0, .ref (ad 70)), (1, .int p0), (2, .int p1), (3, .ref o)] := hl
  refine lv_aload_n hx hb dL_kin_0 rfl (lv_at hl 3 rfl) ?_
  refine lv_iconst (v := nI 0) hx hb dL_kin_1 (by decide +kernel) ?_
  refine lv_aload_n hx hb dL_kin_2 rfl (lv_at hl 0 rfl) ?_
  refine lv_iload_n hx hb dL_kin_3 rfl (lv_at hl 1 rfl) ?_
  refine lv_iload_n hx hb dL_kin_4 rfl (lv_at hl 2 rfl) ?_
  refine q_callXC (As := [.int p0, .int p1]) (w1 := rlW cA ad g2 z2) (name := "java/lang/IndexOutOfBoundsException") hx hb hml hown hT (q_kint hK) hP hD hS hA  hX hZ hM k_X5_kin kl_L_79 (q0 := 0) rfl rfl rfl [(o, .inl (cL, 1, .inr (.inl f)))] [] wp_1 wp_1.symm ((rlW_adr _ _ _ _).trans (rlW_adr _ _ _ _).symm) hl rfl rfl (Nat.le_of_ble_eq_true rfl) ⟨⟨hrm.1, hrm.2.1⟩, (by show rm.frames + 1 ≤ 9; omega), (by show 8 + (3 + 11) + rm.locals ≤ 180; omega)⟩ ⟨Nat.le_of_ble_eq_true rfl, Nat.le_of_ble_eq_true rfl⟩ dL_kin_5 [] ⟨0, 17, 20, 13⟩ [⟨0, 17, 24, 15⟩] htb (fun z hz => absurd hz List.not_mem_nil) (by decide) (by decide) kx_L_13 q_cast_iob (fun q9 H locs hP hD hS => ?_)
  refine lv_astore (lv' := [(4, .ref q9), (0, .ref (ad 70)), (1, .int p0), (2, .int p1), (3, .ref o)]) hx hb dL_kin_20 hl (by decide) rfl (fun ls hl => ?_)
  refine lv_iconst (v := nI 1) hx hb dL_kin_22 (by decide +kernel) ?_
  exact q_lret hx hb hr hlk rfl hP hS (by decide) (by decide) dL_kin_23
set_option maxRecDepth 100000 in
set_option maxHeartbeats 4000000 in
theorem wx_kin_iae (l : Launch) (D : va_G) (cA cL : ClassId) (ad : Nat → Nat) (g g2 : Nat → Nat → Int32) (z z2 : Nat → Nat) (o : Nat) (f : Nat → Int64) (p0 : Int32) (p1 : Int32) (rm : Room) (hrm : rm.cells = 1 ∧ rm.slots = 6 ∧ rm.frames ≤ 8 ∧ rm.locals ≤ 139) (hM : q_CX l yX5_kin [Cond.code yX5_kin cX5_kin 3 (some .boolean)] rm D cA (.ref (ad 70) :: [.int p0, .int p1]) (rlW cA ad g z) "java/lang/IllegalArgumentException" (rlW cA ad g2 z2)) : q_CL l yL_kin [Cond.codeWith yL_kin cL_kin 5 (some .int) [(0, 17, 20, 13), (0, 17, 24, 15)]] rm_L D cA cL [.ref (ad 70), .int p0, .int p1, .ref o] ((o, .inl (cL, 1, .inr (.inl f))) :: rlW cA ad g z) (nI 2) ((o, .inl (cL, 1, .inr (.inl f))) :: rlW cA ad g2 z2) := by
  refine q_startL RL (by decide +kernel) rfl (Nat.le_of_ble_eq_true rfl) ?_
  intro p e s m below meth c A args H locs ls hx hb hr hml hown hT hlk hP hK hD hA hS hl htb hX hN hZ
  have hl : lv_has ls 5 [(0, .ref (ad 70)), (1, .int p0), (2, .int p1), (3, .ref o)] := hl
  refine lv_aload_n hx hb dL_kin_0 rfl (lv_at hl 3 rfl) ?_
  refine lv_iconst (v := nI 0) hx hb dL_kin_1 (by decide +kernel) ?_
  refine lv_aload_n hx hb dL_kin_2 rfl (lv_at hl 0 rfl) ?_
  refine lv_iload_n hx hb dL_kin_3 rfl (lv_at hl 1 rfl) ?_
  refine lv_iload_n hx hb dL_kin_4 rfl (lv_at hl 2 rfl) ?_
  refine q_callXC (As := [.int p0, .int p1]) (w1 := rlW cA ad g2 z2) (name := "java/lang/IllegalArgumentException") hx hb hml hown hT (q_kint hK) hP hD hS hA  hX hZ hM k_X5_kin kl_L_79 (q0 := 0) rfl rfl rfl [(o, .inl (cL, 1, .inr (.inl f)))] [] wp_1 wp_1.symm ((rlW_adr _ _ _ _).trans (rlW_adr _ _ _ _).symm) hl rfl rfl (Nat.le_of_ble_eq_true rfl) ⟨⟨hrm.1, hrm.2.1⟩, (by show rm.frames + 1 ≤ 9; omega), (by show 8 + (3 + 11) + rm.locals ≤ 180; omega)⟩ ⟨Nat.le_of_ble_eq_true rfl, Nat.le_of_ble_eq_true rfl⟩ dL_kin_5 [⟨0, 17, 20, 13⟩] ⟨0, 17, 24, 15⟩ [] htb (fun z hz => Or.inr (by rw [List.mem_singleton.mp hz]; exact ⟨by decide, _, hT.use kx_L_13 args, hN.1⟩)) (by decide) (by decide) kx_L_15 q_cast_iae (fun q9 H locs hP hD hS => ?_)
  refine lv_astore (lv' := [(4, .ref q9), (0, .ref (ad 70)), (1, .int p0), (2, .int p1), (3, .ref o)]) hx hb dL_kin_24 hl (by decide) rfl (fun ls hl => ?_)
  refine lv_iconst (v := nI 2) hx hb dL_kin_26 (by decide +kernel) ?_
  exact q_lret hx hb hr hlk rfl hP hS (by decide) (by decide) dL_kin_27
set_option maxRecDepth 100000 in
set_option maxHeartbeats 4000000 in
theorem wo_degree (l : Launch) (D : va_G) (cA cL : ClassId) (ad : Nat → Nat) (g g2 : Nat → Nat → Int32) (z z2 : Nat → Nat) (o : Nat) (f : Nat → Int64) (p0 : Int32) (p1 : Int32) (rm : Room) (r : Int32) (hrm : rm.cells = 0 ∧ rm.slots = 0 ∧ rm.frames ≤ 8 ∧ rm.locals ≤ 139) (hM : q_CI l yX5_degree [Cond.code yX5_degree cX5_degree 3 (some .int)] rm D cA (.ref (ad 70) :: [.int p0, .int p1]) (rlW cA ad g z) r (rlW cA ad g2 z2)) : q_CL l yL_degree [Cond.codeWith yL_degree cL_degree 5 (some .int) [(0, 10, 13, 13)]] rm_L D cA cL [.ref (ad 70), .int p0, .int p1, .ref o] ((o, .inl (cL, 1, .inr (.inl f))) :: rlW cA ad g z) (nI 0) ((o, .inl (cL, 1, .inr (.inl (vp_updL f 0 r.toInt64)))) :: rlW cA ad g2 z2) := by
  refine q_startL RL (by decide +kernel) rfl (Nat.le_of_ble_eq_true rfl) ?_
  intro p e s m below meth c A args H locs ls hx hb hr hml hown hT hlk hP hK hD hA hS hl htb hX hN hZ
  have hl : lv_has ls 5 [(0, .ref (ad 70)), (1, .int p0), (2, .int p1), (3, .ref o)] := hl
  refine lv_aload_n hx hb dL_degree_0 rfl (lv_at hl 3 rfl) ?_
  refine lv_iconst (v := nI 0) hx hb dL_degree_1 (by decide +kernel) ?_
  refine lv_aload_n hx hb dL_degree_2 rfl (lv_at hl 0 rfl) ?_
  refine lv_iload_n hx hb dL_degree_3 rfl (lv_at hl 1 rfl) ?_
  refine lv_iload_n hx hb dL_degree_4 rfl (lv_at hl 2 rfl) ?_
  refine q_callIS (As := [.int p0, .int p1]) (r := r) (w1 := rlW cA ad g2 z2) hx hb hml hown hT (q_kint hK) hP hD hS hA  hM k_X5_degree kl_L_82 (q0 := 0) rfl rfl rfl [(o, .inl (cL, 1, .inr (.inl f)))] [] wp_1 wp_1.symm ((rlW_adr _ _ _ _).trans (rlW_adr _ _ _ _).symm) hl rfl rfl (Nat.le_of_ble_eq_true rfl) ⟨⟨hrm.1, hrm.2.1⟩, (by show rm.frames + 1 ≤ 9; omega), (by show 8 + (3 + 11) + rm.locals ≤ 180; omega)⟩ ⟨Nat.zero_le _, Nat.zero_le _⟩ dL_degree_5 (fun H locs hP hD hS => ?_)
  refine lv_i2l (v := r.toInt64) hx hb dL_degree_8 rfl ?_
  refine q_last (x := r.toInt64) (ws1 := (o, .inl (cL, 1, .inr (.inl (vp_updL f 0 r.toInt64)))) :: rlW cA ad g2 z2) hx hb hK hP hD hS 0 rfl rfl rfl dL_degree_9 (fun H locs hP hD hS => ?_)
  refine lv_goto (tgt := 17) hx hb dL_degree_10 (by decide) ?_
  refine lv_iconst (v := nI 0) hx hb dL_degree_17 (by decide +kernel) ?_
  exact q_lret hx hb hr hlk rfl hP hS (by decide) (by decide) dL_degree_18
set_option maxRecDepth 100000 in
set_option maxHeartbeats 4000000 in
theorem wx_degree_iob (l : Launch) (D : va_G) (cA cL : ClassId) (ad : Nat → Nat) (g g2 : Nat → Nat → Int32) (z z2 : Nat → Nat) (o : Nat) (f : Nat → Int64) (p0 : Int32) (p1 : Int32) (rm : Room) (hrm : rm.cells = 1 ∧ rm.slots = 6 ∧ rm.frames ≤ 8 ∧ rm.locals ≤ 139) (hM : q_CX l yX5_degree [Cond.code yX5_degree cX5_degree 3 (some .int)] rm D cA (.ref (ad 70) :: [.int p0, .int p1]) (rlW cA ad g z) "java/lang/IndexOutOfBoundsException" (rlW cA ad g2 z2)) : q_CL l yL_degree [Cond.codeWith yL_degree cL_degree 5 (some .int) [(0, 10, 13, 13)]] rm_L D cA cL [.ref (ad 70), .int p0, .int p1, .ref o] ((o, .inl (cL, 1, .inr (.inl f))) :: rlW cA ad g z) (nI 1) ((o, .inl (cL, 1, .inr (.inl f))) :: rlW cA ad g2 z2) := by
  refine q_startL RL (by decide +kernel) rfl (Nat.le_of_ble_eq_true rfl) ?_
  intro p e s m below meth c A args H locs ls hx hb hr hml hown hT hlk hP hK hD hA hS hl htb hX hN hZ
  have hl : lv_has ls 5 [(0, .ref (ad 70)), (1, .int p0), (2, .int p1), (3, .ref o)] := hl
  refine lv_aload_n hx hb dL_degree_0 rfl (lv_at hl 3 rfl) ?_
  refine lv_iconst (v := nI 0) hx hb dL_degree_1 (by decide +kernel) ?_
  refine lv_aload_n hx hb dL_degree_2 rfl (lv_at hl 0 rfl) ?_
  refine lv_iload_n hx hb dL_degree_3 rfl (lv_at hl 1 rfl) ?_
  refine lv_iload_n hx hb dL_degree_4 rfl (lv_at hl 2 rfl) ?_
  refine q_callXC (As := [.int p0, .int p1]) (w1 := rlW cA ad g2 z2) (name := "java/lang/IndexOutOfBoundsException") hx hb hml hown hT (q_kint hK) hP hD hS hA  hX hZ hM k_X5_degree kl_L_82 (q0 := 0) rfl rfl rfl [(o, .inl (cL, 1, .inr (.inl f)))] [] wp_1 wp_1.symm ((rlW_adr _ _ _ _).trans (rlW_adr _ _ _ _).symm) hl rfl rfl (Nat.le_of_ble_eq_true rfl) ⟨⟨hrm.1, hrm.2.1⟩, (by show rm.frames + 1 ≤ 9; omega), (by show 8 + (3 + 11) + rm.locals ≤ 180; omega)⟩ ⟨Nat.le_of_ble_eq_true rfl, Nat.le_of_ble_eq_true rfl⟩ dL_degree_5 [] ⟨0, 10, 13, 13⟩ [] htb (fun z hz => absurd hz List.not_mem_nil) (by decide) (by decide) kx_L_13 q_cast_iob (fun q9 H locs hP hD hS => ?_)
  refine lv_astore (lv' := [(4, .ref q9), (0, .ref (ad 70)), (1, .int p0), (2, .int p1), (3, .ref o)]) hx hb dL_degree_13 hl (by decide) rfl (fun ls hl => ?_)
  refine lv_iconst (v := nI 1) hx hb dL_degree_15 (by decide +kernel) ?_
  exact q_lret hx hb hr hlk rfl hP hS (by decide) (by decide) dL_degree_16
set_option maxRecDepth 100000 in
set_option maxHeartbeats 4000000 in
theorem wo_best (l : Launch) (D : va_G) (cA cL : ClassId) (ad : Nat → Nat) (g g2 : Nat → Nat → Int32) (z z2 : Nat → Nat) (o : Nat) (f : Nat → Int64) (p0 : Int32) (rm : Room) (r : Int32) (hrm : rm.cells = 0 ∧ rm.slots = 0 ∧ rm.frames ≤ 8 ∧ rm.locals ≤ 139) (hM : q_CI l yX5_best [Cond.code yX5_best cX5_best 2 (some .int)] rm D cA (.ref (ad 70) :: [.int p0]) (rlW cA ad g z) r (rlW cA ad g2 z2)) : q_CL l yL_best [Cond.codeWith yL_best cL_best 4 (some .int) [(0, 9, 12, 15)]] rm_L D cA cL [.ref (ad 70), .int p0, .ref o] ((o, .inl (cL, 1, .inr (.inl f))) :: rlW cA ad g z) (nI 0) ((o, .inl (cL, 1, .inr (.inl (vp_updL f 0 r.toInt64)))) :: rlW cA ad g2 z2) := by
  refine q_startL RL (by decide +kernel) rfl (Nat.le_of_ble_eq_true rfl) ?_
  intro p e s m below meth c A args H locs ls hx hb hr hml hown hT hlk hP hK hD hA hS hl htb hX hN hZ
  have hl : lv_has ls 4 [(0, .ref (ad 70)), (1, .int p0), (2, .ref o)] := hl
  refine lv_aload_n hx hb dL_best_0 rfl (lv_at hl 2 rfl) ?_
  refine lv_iconst (v := nI 0) hx hb dL_best_1 (by decide +kernel) ?_
  refine lv_aload_n hx hb dL_best_2 rfl (lv_at hl 0 rfl) ?_
  refine lv_iload_n hx hb dL_best_3 rfl (lv_at hl 1 rfl) ?_
  refine q_callIS (As := [.int p0]) (r := r) (w1 := rlW cA ad g2 z2) hx hb hml hown hT (q_kint hK) hP hD hS hA  hM k_X5_best kl_L_85 (q0 := 0) rfl rfl rfl [(o, .inl (cL, 1, .inr (.inl f)))] [] wp_1 wp_1.symm ((rlW_adr _ _ _ _).trans (rlW_adr _ _ _ _).symm) hl rfl rfl (Nat.le_of_ble_eq_true rfl) ⟨⟨hrm.1, hrm.2.1⟩, (by show rm.frames + 1 ≤ 9; omega), (by show 8 + (2 + 11) + rm.locals ≤ 180; omega)⟩ ⟨Nat.zero_le _, Nat.zero_le _⟩ dL_best_4 (fun H locs hP hD hS => ?_)
  refine lv_i2l (v := r.toInt64) hx hb dL_best_7 rfl ?_
  refine q_last (x := r.toInt64) (ws1 := (o, .inl (cL, 1, .inr (.inl (vp_updL f 0 r.toInt64)))) :: rlW cA ad g2 z2) hx hb hK hP hD hS 0 rfl rfl rfl dL_best_8 (fun H locs hP hD hS => ?_)
  refine lv_goto (tgt := 15) hx hb dL_best_9 (by decide) ?_
  refine lv_iconst (v := nI 0) hx hb dL_best_15 (by decide +kernel) ?_
  exact q_lret hx hb hr hlk rfl hP hS (by decide) (by decide) dL_best_16
set_option maxRecDepth 100000 in
set_option maxHeartbeats 4000000 in
theorem wx_best_iae (l : Launch) (D : va_G) (cA cL : ClassId) (ad : Nat → Nat) (g g2 : Nat → Nat → Int32) (z z2 : Nat → Nat) (o : Nat) (f : Nat → Int64) (p0 : Int32) (rm : Room) (hrm : rm.cells = 1 ∧ rm.slots = 6 ∧ rm.frames ≤ 8 ∧ rm.locals ≤ 139) (hM : q_CX l yX5_best [Cond.code yX5_best cX5_best 2 (some .int)] rm D cA (.ref (ad 70) :: [.int p0]) (rlW cA ad g z) "java/lang/IllegalArgumentException" (rlW cA ad g2 z2)) : q_CL l yL_best [Cond.codeWith yL_best cL_best 4 (some .int) [(0, 9, 12, 15)]] rm_L D cA cL [.ref (ad 70), .int p0, .ref o] ((o, .inl (cL, 1, .inr (.inl f))) :: rlW cA ad g z) (nI 1) ((o, .inl (cL, 1, .inr (.inl f))) :: rlW cA ad g2 z2) := by
  refine q_startL RL (by decide +kernel) rfl (Nat.le_of_ble_eq_true rfl) ?_
  intro p e s m below meth c A args H locs ls hx hb hr hml hown hT hlk hP hK hD hA hS hl htb hX hN hZ
  have hl : lv_has ls 4 [(0, .ref (ad 70)), (1, .int p0), (2, .ref o)] := hl
  refine lv_aload_n hx hb dL_best_0 rfl (lv_at hl 2 rfl) ?_
  refine lv_iconst (v := nI 0) hx hb dL_best_1 (by decide +kernel) ?_
  refine lv_aload_n hx hb dL_best_2 rfl (lv_at hl 0 rfl) ?_
  refine lv_iload_n hx hb dL_best_3 rfl (lv_at hl 1 rfl) ?_
  refine q_callXC (As := [.int p0]) (w1 := rlW cA ad g2 z2) (name := "java/lang/IllegalArgumentException") hx hb hml hown hT (q_kint hK) hP hD hS hA  hX hZ hM k_X5_best kl_L_85 (q0 := 0) rfl rfl rfl [(o, .inl (cL, 1, .inr (.inl f)))] [] wp_1 wp_1.symm ((rlW_adr _ _ _ _).trans (rlW_adr _ _ _ _).symm) hl rfl rfl (Nat.le_of_ble_eq_true rfl) ⟨⟨hrm.1, hrm.2.1⟩, (by show rm.frames + 1 ≤ 9; omega), (by show 8 + (2 + 11) + rm.locals ≤ 180; omega)⟩ ⟨Nat.le_of_ble_eq_true rfl, Nat.le_of_ble_eq_true rfl⟩ dL_best_4 [] ⟨0, 9, 12, 15⟩ [] htb (fun z hz => absurd hz List.not_mem_nil) (by decide) (by decide) kx_L_15 q_cast_iae (fun q9 H locs hP hD hS => ?_)
  refine lv_astore_n (lv' := [(3, .ref q9), (0, .ref (ad 70)), (1, .int p0), (2, .ref o)]) hx hb dL_best_12 rfl hl (by decide) rfl (fun ls hl => ?_)
  refine lv_iconst (v := nI 1) hx hb dL_best_13 (by decide +kernel) ?_
  exact q_lret hx hb hr hlk rfl hP hS (by decide) (by decide) dL_best_14
set_option maxRecDepth 100000 in
set_option maxHeartbeats 4000000 in
theorem wo_bestAnew (l : Launch) (D : va_G) (cA cL : ClassId) (ad : Nat → Nat) (g g2 : Nat → Nat → Int32) (z z2 : Nat → Nat) (o : Nat) (f : Nat → Int64) (p0 : Int32) (rm : Room) (r : Int32) (hrm : rm.cells = 0 ∧ rm.slots = 0 ∧ rm.frames ≤ 8 ∧ rm.locals ≤ 139) (hM : q_CI l yX5_bestAnew [Cond.code yX5_bestAnew cX5_bestAnew 2 (some .int)] rm D cA (.ref (ad 70) :: [.int p0]) (rlW cA ad g z) r (rlW cA ad g2 z2)) : q_CL l yL_bestAnew [Cond.codeWith yL_bestAnew cL_bestAnew 4 (some .int) [(0, 9, 12, 15)]] rm_L D cA cL [.ref (ad 70), .int p0, .ref o] ((o, .inl (cL, 1, .inr (.inl f))) :: rlW cA ad g z) (nI 0) ((o, .inl (cL, 1, .inr (.inl (vp_updL f 0 r.toInt64)))) :: rlW cA ad g2 z2) := by
  refine q_startL RL (by decide +kernel) rfl (Nat.le_of_ble_eq_true rfl) ?_
  intro p e s m below meth c A args H locs ls hx hb hr hml hown hT hlk hP hK hD hA hS hl htb hX hN hZ
  have hl : lv_has ls 4 [(0, .ref (ad 70)), (1, .int p0), (2, .ref o)] := hl
  refine lv_aload_n hx hb dL_bestAnew_0 rfl (lv_at hl 2 rfl) ?_
  refine lv_iconst (v := nI 0) hx hb dL_bestAnew_1 (by decide +kernel) ?_
  refine lv_aload_n hx hb dL_bestAnew_2 rfl (lv_at hl 0 rfl) ?_
  refine lv_iload_n hx hb dL_bestAnew_3 rfl (lv_at hl 1 rfl) ?_
  refine q_callIS (As := [.int p0]) (r := r) (w1 := rlW cA ad g2 z2) hx hb hml hown hT (q_kint hK) hP hD hS hA  hM k_X5_bestAnew kl_L_88 (q0 := 0) rfl rfl rfl [(o, .inl (cL, 1, .inr (.inl f)))] [] wp_1 wp_1.symm ((rlW_adr _ _ _ _).trans (rlW_adr _ _ _ _).symm) hl rfl rfl (Nat.le_of_ble_eq_true rfl) ⟨⟨hrm.1, hrm.2.1⟩, (by show rm.frames + 1 ≤ 9; omega), (by show 8 + (2 + 11) + rm.locals ≤ 180; omega)⟩ ⟨Nat.zero_le _, Nat.zero_le _⟩ dL_bestAnew_4 (fun H locs hP hD hS => ?_)
  refine lv_i2l (v := r.toInt64) hx hb dL_bestAnew_7 rfl ?_
  refine q_last (x := r.toInt64) (ws1 := (o, .inl (cL, 1, .inr (.inl (vp_updL f 0 r.toInt64)))) :: rlW cA ad g2 z2) hx hb hK hP hD hS 0 rfl rfl rfl dL_bestAnew_8 (fun H locs hP hD hS => ?_)
  refine lv_goto (tgt := 15) hx hb dL_bestAnew_9 (by decide) ?_
  refine lv_iconst (v := nI 0) hx hb dL_bestAnew_15 (by decide +kernel) ?_
  exact q_lret hx hb hr hlk rfl hP hS (by decide) (by decide) dL_bestAnew_16
set_option maxRecDepth 100000 in
set_option maxHeartbeats 4000000 in
theorem wx_bestAnew_iae (l : Launch) (D : va_G) (cA cL : ClassId) (ad : Nat → Nat) (g g2 : Nat → Nat → Int32) (z z2 : Nat → Nat) (o : Nat) (f : Nat → Int64) (p0 : Int32) (rm : Room) (hrm : rm.cells = 1 ∧ rm.slots = 6 ∧ rm.frames ≤ 8 ∧ rm.locals ≤ 139) (hM : q_CX l yX5_bestAnew [Cond.code yX5_bestAnew cX5_bestAnew 2 (some .int)] rm D cA (.ref (ad 70) :: [.int p0]) (rlW cA ad g z) "java/lang/IllegalArgumentException" (rlW cA ad g2 z2)) : q_CL l yL_bestAnew [Cond.codeWith yL_bestAnew cL_bestAnew 4 (some .int) [(0, 9, 12, 15)]] rm_L D cA cL [.ref (ad 70), .int p0, .ref o] ((o, .inl (cL, 1, .inr (.inl f))) :: rlW cA ad g z) (nI 1) ((o, .inl (cL, 1, .inr (.inl f))) :: rlW cA ad g2 z2) := by
  refine q_startL RL (by decide +kernel) rfl (Nat.le_of_ble_eq_true rfl) ?_
  intro p e s m below meth c A args H locs ls hx hb hr hml hown hT hlk hP hK hD hA hS hl htb hX hN hZ
  have hl : lv_has ls 4 [(0, .ref (ad 70)), (1, .int p0), (2, .ref o)] := hl
  refine lv_aload_n hx hb dL_bestAnew_0 rfl (lv_at hl 2 rfl) ?_
  refine lv_iconst (v := nI 0) hx hb dL_bestAnew_1 (by decide +kernel) ?_
  refine lv_aload_n hx hb dL_bestAnew_2 rfl (lv_at hl 0 rfl) ?_
  refine lv_iload_n hx hb dL_bestAnew_3 rfl (lv_at hl 1 rfl) ?_
  refine q_callXC (As := [.int p0]) (w1 := rlW cA ad g2 z2) (name := "java/lang/IllegalArgumentException") hx hb hml hown hT (q_kint hK) hP hD hS hA  hX hZ hM k_X5_bestAnew kl_L_88 (q0 := 0) rfl rfl rfl [(o, .inl (cL, 1, .inr (.inl f)))] [] wp_1 wp_1.symm ((rlW_adr _ _ _ _).trans (rlW_adr _ _ _ _).symm) hl rfl rfl (Nat.le_of_ble_eq_true rfl) ⟨⟨hrm.1, hrm.2.1⟩, (by show rm.frames + 1 ≤ 9; omega), (by show 8 + (2 + 11) + rm.locals ≤ 180; omega)⟩ ⟨Nat.le_of_ble_eq_true rfl, Nat.le_of_ble_eq_true rfl⟩ dL_bestAnew_4 [] ⟨0, 9, 12, 15⟩ [] htb (fun z hz => absurd hz List.not_mem_nil) (by decide) (by decide) kx_L_15 q_cast_iae (fun q9 H locs hP hD hS => ?_)
  refine lv_astore_n (lv' := [(3, .ref q9), (0, .ref (ad 70)), (1, .int p0), (2, .ref o)]) hx hb dL_bestAnew_12 rfl hl (by decide) rfl (fun ls hl => ?_)
  refine lv_iconst (v := nI 1) hx hb dL_bestAnew_13 (by decide +kernel) ?_
  exact q_lret hx hb hr hlk rfl hP hS (by decide) (by decide) dL_bestAnew_14
set_option maxRecDepth 100000 in
set_option maxHeartbeats 4000000 in
theorem wo_rival (l : Launch) (D : va_G) (cA cL : ClassId) (ad : Nat → Nat) (g g2 : Nat → Nat → Int32) (z z2 : Nat → Nat) (o : Nat) (f : Nat → Int64) (p0 : Int32) (p1 : Int32) (rm : Room) (r : Int32) (hrm : rm.cells = 0 ∧ rm.slots = 0 ∧ rm.frames ≤ 8 ∧ rm.locals ≤ 139) (hM : q_CI l yX5_rival [Cond.code yX5_rival cX5_rival 4 (some .int)] rm D cA (.ref (ad 70) :: [.int p0, .int p1]) (rlW cA ad g z) r (rlW cA ad g2 z2)) : q_CL l yL_rival [Cond.codeWith yL_rival cL_rival 5 (some .int) [(0, 10, 13, 13), (0, 10, 17, 15)]] rm_L D cA cL [.ref (ad 70), .int p0, .int p1, .ref o] ((o, .inl (cL, 1, .inr (.inl f))) :: rlW cA ad g z) (nI 0) ((o, .inl (cL, 1, .inr (.inl (vp_updL f 0 r.toInt64)))) :: rlW cA ad g2 z2) := by
  refine q_startL RL (by decide +kernel) rfl (Nat.le_of_ble_eq_true rfl) ?_
  intro p e s m below meth c A args H locs ls hx hb hr hml hown hT hlk hP hK hD hA hS hl htb hX hN hZ
  have hl : lv_has ls 5 [(0, .ref (ad 70)), (1, .int p0), (2, .int p1), (3, .ref o)] := hl
  refine lv_aload_n hx hb dL_rival_0 rfl (lv_at hl 3 rfl) ?_
  refine lv_iconst (v := nI 0) hx hb dL_rival_1 (by decide +kernel) ?_
  refine lv_aload_n hx hb dL_rival_2 rfl (lv_at hl 0 rfl) ?_
  refine lv_iload_n hx hb dL_rival_3 rfl (lv_at hl 1 rfl) ?_
  refine lv_iload_n hx hb dL_rival_4 rfl (lv_at hl 2 rfl) ?_
  refine q_callIS (As := [.int p0, .int p1]) (r := r) (w1 := rlW cA ad g2 z2) hx hb hml hown hT (q_kint hK) hP hD hS hA  hM k_X5_rival kl_L_91 (q0 := 0) rfl rfl rfl [(o, .inl (cL, 1, .inr (.inl f)))] [] wp_1 wp_1.symm ((rlW_adr _ _ _ _).trans (rlW_adr _ _ _ _).symm) hl rfl rfl (Nat.le_of_ble_eq_true rfl) ⟨⟨hrm.1, hrm.2.1⟩, (by show rm.frames + 1 ≤ 9; omega), (by show 8 + (4 + 11) + rm.locals ≤ 180; omega)⟩ ⟨Nat.zero_le _, Nat.zero_le _⟩ dL_rival_5 (fun H locs hP hD hS => ?_)
  refine lv_i2l (v := r.toInt64) hx hb dL_rival_8 rfl ?_
  refine q_last (x := r.toInt64) (ws1 := (o, .inl (cL, 1, .inr (.inl (vp_updL f 0 r.toInt64)))) :: rlW cA ad g2 z2) hx hb hK hP hD hS 0 rfl rfl rfl dL_rival_9 (fun H locs hP hD hS => ?_)
  refine lv_goto (tgt := 21) hx hb dL_rival_10 (by decide) ?_
  refine lv_iconst (v := nI 0) hx hb dL_rival_21 (by decide +kernel) ?_
  exact q_lret hx hb hr hlk rfl hP hS (by decide) (by decide) dL_rival_22
set_option maxRecDepth 100000 in
set_option maxHeartbeats 4000000 in
theorem wx_rival_iob (l : Launch) (D : va_G) (cA cL : ClassId) (ad : Nat → Nat) (g g2 : Nat → Nat → Int32) (z z2 : Nat → Nat) (o : Nat) (f : Nat → Int64) (p0 : Int32) (p1 : Int32) (rm : Room) (hrm : rm.cells = 1 ∧ rm.slots = 6 ∧ rm.frames ≤ 8 ∧ rm.locals ≤ 139) (hM : q_CX l yX5_rival [Cond.code yX5_rival cX5_rival 4 (some .int)] rm D cA (.ref (ad 70) :: [.int p0, .int p1]) (rlW cA ad g z) "java/lang/IndexOutOfBoundsException" (rlW cA ad g2 z2)) : q_CL l yL_rival [Cond.codeWith yL_rival cL_rival 5 (some .int) [(0, 10, 13, 13), (0, 10, 17, 15)]] rm_L D cA cL [.ref (ad 70), .int p0, .int p1, .ref o] ((o, .inl (cL, 1, .inr (.inl f))) :: rlW cA ad g z) (nI 1) ((o, .inl (cL, 1, .inr (.inl f))) :: rlW cA ad g2 z2) := by
  refine q_startL RL (by decide +kernel) rfl (Nat.le_of_ble_eq_true rfl) ?_
  intro p e s m below meth c A args H locs ls hx hb hr hml hown hT hlk hP hK hD hA hS hl htb hX hN hZ
  have hl : lv_has ls 5 [(0, .ref (ad 70)), (1, .int p0), (2, .int p1), (3, .ref o)] := hl
  refine lv_aload_n hx hb dL_rival_0 rfl (lv_at hl 3 rfl) ?_
  refine lv_iconst (v := nI 0) hx hb dL_rival_1 (by decide +kernel) ?_
  refine lv_aload_n hx hb dL_rival_2 rfl (lv_at hl 0 rfl) ?_
  refine lv_iload_n hx hb dL_rival_3 rfl (lv_at hl 1 rfl) ?_
  refine lv_iload_n hx hb dL_rival_4 rfl (lv_at hl 2 rfl) ?_
  refine q_callXC (As := [.int p0, .int p1]) (w1 := rlW cA ad g2 z2) (name := "java/lang/IndexOutOfBoundsException") hx hb hml hown hT (q_kint hK) hP hD hS hA  hX hZ hM k_X5_rival kl_L_91 (q0 := 0) rfl rfl rfl [(o, .inl (cL, 1, .inr (.inl f)))] [] wp_1 wp_1.symm ((rlW_adr _ _ _ _).trans (rlW_adr _ _ _ _).symm) hl rfl rfl (Nat.le_of_ble_eq_true rfl) ⟨⟨hrm.1, hrm.2.1⟩, (by show rm.frames + 1 ≤ 9; omega), (by show 8 + (4 + 11) + rm.locals ≤ 180; omega)⟩ ⟨Nat.le_of_ble_eq_true rfl, Nat.le_of_ble_eq_true rfl⟩ dL_rival_5 [] ⟨0, 10, 13, 13⟩ [⟨0, 10, 17, 15⟩] htb (fun z hz => absurd hz List.not_mem_nil) (by decide) (by decide) kx_L_13 q_cast_iob (fun q9 H locs hP hD hS => ?_)
  refine lv_astore (lv' := [(4, .ref q9), (0, .ref (ad 70)), (1, .int p0), (2, .int p1), (3, .ref o)]) hx hb dL_rival_13 hl (by decide) rfl (fun ls hl => ?_)
  refine lv_iconst (v := nI 1) hx hb dL_rival_15 (by decide +kernel) ?_
  exact q_lret hx hb hr hlk rfl hP hS (by decide) (by decide) dL_rival_16
set_option maxRecDepth 100000 in
set_option maxHeartbeats 4000000 in
theorem wx_rival_iae (l : Launch) (D : va_G) (cA cL : ClassId) (ad : Nat → Nat) (g g2 : Nat → Nat → Int32) (z z2 : Nat → Nat) (o : Nat) (f : Nat → Int64) (p0 : Int32) (p1 : Int32) (rm : Room) (hrm : rm.cells = 1 ∧ rm.slots = 6 ∧ rm.frames ≤ 8 ∧ rm.locals ≤ 139) (hM : q_CX l yX5_rival [Cond.code yX5_rival cX5_rival 4 (some .int)] rm D cA (.ref (ad 70) :: [.int p0, .int p1]) (rlW cA ad g z) "java/lang/IllegalArgumentException" (rlW cA ad g2 z2)) : q_CL l yL_rival [Cond.codeWith yL_rival cL_rival 5 (some .int) [(0, 10, 13, 13), (0, 10, 17, 15)]] rm_L D cA cL [.ref (ad 70), .int p0, .int p1, .ref o] ((o, .inl (cL, 1, .inr (.inl f))) :: rlW cA ad g z) (nI 2) ((o, .inl (cL, 1, .inr (.inl f))) :: rlW cA ad g2 z2) := by
  refine q_startL RL (by decide +kernel) rfl (Nat.le_of_ble_eq_true rfl) ?_
  intro p e s m below meth c A args H locs ls hx hb hr hml hown hT hlk hP hK hD hA hS hl htb hX hN hZ
  have hl : lv_has ls 5 [(0, .ref (ad 70)), (1, .int p0), (2, .int p1), (3, .ref o)] := hl
  refine lv_aload_n hx hb dL_rival_0 rfl (lv_at hl 3 rfl) ?_
  refine lv_iconst (v := nI 0) hx hb dL_rival_1 (by decide +kernel) ?_
  refine lv_aload_n hx hb dL_rival_2 rfl (lv_at hl 0 rfl) ?_
  refine lv_iload_n hx hb dL_rival_3 rfl (lv_at hl 1 rfl) ?_
  refine lv_iload_n hx hb dL_rival_4 rfl (lv_at hl 2 rfl) ?_
  refine q_callXC (As := [.int p0, .int p1]) (w1 := rlW cA ad g2 z2) (name := "java/lang/IllegalArgumentException") hx hb hml hown hT (q_kint hK) hP hD hS hA  hX hZ hM k_X5_rival kl_L_91 (q0 := 0) rfl rfl rfl [(o, .inl (cL, 1, .inr (.inl f)))] [] wp_1 wp_1.symm ((rlW_adr _ _ _ _).trans (rlW_adr _ _ _ _).symm) hl rfl rfl (Nat.le_of_ble_eq_true rfl) ⟨⟨hrm.1, hrm.2.1⟩, (by show rm.frames + 1 ≤ 9; omega), (by show 8 + (4 + 11) + rm.locals ≤ 180; omega)⟩ ⟨Nat.le_of_ble_eq_true rfl, Nat.le_of_ble_eq_true rfl⟩ dL_rival_5 [⟨0, 10, 13, 13⟩] ⟨0, 10, 17, 15⟩ [] htb (fun z hz => Or.inr (by rw [List.mem_singleton.mp hz]; exact ⟨by decide, _, hT.use kx_L_13 args, hN.1⟩)) (by decide) (by decide) kx_L_15 q_cast_iae (fun q9 H locs hP hD hS => ?_)
  refine lv_astore (lv' := [(4, .ref q9), (0, .ref (ad 70)), (1, .int p0), (2, .int p1), (3, .ref o)]) hx hb dL_rival_17 hl (by decide) rfl (fun ls hl => ?_)
  refine lv_iconst (v := nI 2) hx hb dL_rival_19 (by decide +kernel) ?_
  exact q_lret hx hb hr hlk rfl hP hS (by decide) (by decide) dL_rival_20
