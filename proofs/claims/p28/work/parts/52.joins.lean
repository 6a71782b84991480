abbrev rm_Ljoins : Room := { frames := 10, cells := 0, slots := 0, locals := 210 }
set_option maxRecDepth 100000 in
set_option maxHeartbeats 4000000 in
theorem tr_joins_0 {p : Program} {l : Launch} {e : Env} {s : State} {m : MethodId} {args : Array Value} {below : List Frame} {meth : Method} {c : Code} {D : va_G} {cA : ClassId} {A : Nat → Prop} {ad : Nat → Nat} {Q : State → Prop} (C : lcx p l s m c cL_joins 1 D cA A) (kk : ∀ (g : Nat → Nat → Int32) (z : Nat → Nat) (H : Heap) (locs : List Loc) (ls : Array Slot), isL S37 g z → va_P D vwCl (rlW cA ad g z) H → va_D A (rlW cA ad g z) → va_S A s.heap H locs → lv_has ls 1 [(0, .ref (ad 70))] → W p l e rm_Ljoins s m args below meth c H locs 0 0 Q (F0 m 118 ls [])) : ∀ (g : Nat → Nat → Int32) (z : Nat → Nat) (H : Heap) (locs : List Loc) (ls : Array Slot), isL S36 g z → va_P D vwCl (rlW cA ad g z) H → va_D A (rlW cA ad g z) → va_S A s.heap H locs → lv_has ls 1 [(0, .ref (ad 70))] → W p l e rm_Ljoins s m args below meth c H locs 0 0 Q (F0 m 0 ls []) := by
  intro g z H locs ls hs hP hD hS hl
  refine lv_aload_n C.hx C.hb dL_joins_0 rfl (lv_at hl 0 rfl) ?_
  refine lv_iconst (v := nI 1) C.hx C.hb dL_joins_1 (by decide +kernel) ?_
  refine lv_iconst (v := nI 0) C.hx C.hb dL_joins_2 (by decide +kernel) ?_
  refine q_cP (L := S36) (L' := S36) (r := nI 1) (c2 := 0) (s2 := 0) (As := [.int (nI 1), .int (nI 0)]) C hs hP hD hS (cs_Lbest C.htr 1 0 (by decide +kernel)) k_L_best kl_L_113 hl rfl rfl (Nat.le_of_ble_eq_true rfl) ⟨Nat.le_of_ble_eq_true rfl, Nat.le_of_ble_eq_true rfl⟩ ⟨Nat.le_of_ble_eq_true rfl, Nat.le_of_ble_eq_true rfl⟩ ⟨Nat.le_of_ble_eq_true rfl, Nat.le_of_ble_eq_true rfl⟩ dL_joins_3 (fun g z H locs hs hP hD hS => ?_)
  refine lv_if_eq (tgt := 175) C.hx C.hb dL_joins_6 (by decide) (fun c9 => absurd c9 (by decide +kernel)) (fun _ => ?_)
  refine lv_aload_n C.hx C.hb dL_joins_9 rfl (lv_at hl 0 rfl) ?_
  refine lv_iconst (v := nI 3) C.hx C.hb dL_joins_10 (by decide +kernel) ?_
  refine lv_iconst (v := nI 5) C.hx C.hb dL_joins_11 (by decide +kernel) ?_
  refine q_cP (L := S36) (L' := S36) (r := nI 1) (c2 := 0) (s2 := 0) (As := [.int (nI 3), .int (nI 5)]) C hs hP hD hS (cs_Lbest C.htr 3 5 (by decide +kernel)) k_L_best kl_L_113 hl rfl rfl (Nat.le_of_ble_eq_true rfl) ⟨Nat.le_of_ble_eq_true rfl, Nat.le_of_ble_eq_true rfl⟩ ⟨Nat.le_of_ble_eq_true rfl, Nat.le_of_ble_eq_true rfl⟩ ⟨Nat.le_of_ble_eq_true rfl, Nat.le_of_ble_eq_true rfl⟩ dL_joins_12 (fun g z H locs hs hP hD hS => ?_)
  refine lv_if_eq (tgt := 175) C.hx C.hb dL_joins_15 (by decide) (fun c9 => absurd c9 (by decide +kernel)) (fun _ => ?_)
  refine lv_aload_n C.hx C.hb dL_joins_18 rfl (lv_at hl 0 rfl) ?_
  refine lv_iconst (v := nI 5) C.hx C.hb dL_joins_19 (by decide +kernel) ?_
  refine lv_iconst (v := nI 4) C.hx C.hb dL_joins_20 (by decide +kernel) ?_
  refine q_cP (L := S36) (L' := S36) (r := nI 1) (c2 := 0) (s2 := 0) (As := [.int (nI 5), .int (nI 4)]) C hs hP hD hS (cs_Lbest C.htr 5 4 (by decide +kernel)) k_L_best kl_L_113 hl rfl rfl (Nat.le_of_ble_eq_true rfl) ⟨Nat.le_of_ble_eq_true rfl, Nat.le_of_ble_eq_true rfl⟩ ⟨Nat.le_of_ble_eq_true rfl, Nat.le_of_ble_eq_true rfl⟩ ⟨Nat.le_of_ble_eq_true rfl, Nat.le_of_ble_eq_true rfl⟩ dL_joins_21 (fun g z H locs hs hP hD hS => ?_)
  refine lv_if_eq (tgt := 175) C.hx C.hb dL_joins_24 (by decide) (fun c9 => absurd c9 (by decide +kernel)) (fun _ => ?_)
  refine lv_aload_n C.hx C.hb dL_joins_27 rfl (lv_at hl 0 rfl) ?_
  refine lv_bipush (v := nI 6) C.hx C.hb dL_joins_28 (by decide +kernel) ?_
  refine lv_iconst (v := nI 0) C.hx C.hb dL_joins_30 (by decide +kernel) ?_
  refine q_cP (L := S36) (L' := S36) (r := nI 1) (c2 := 0) (s2 := 0) (As := [.int (nI 6), .int (nI 0)]) C hs hP hD hS (cs_Lbest C.htr 6 0 (by decide +kernel)) k_L_best kl_L_113 hl rfl rfl (Nat.le_of_ble_eq_true rfl) ⟨Nat.le_of_ble_eq_true rfl, Nat.le_of_ble_eq_true rfl⟩ ⟨Nat.le_of_ble_eq_true rfl, Nat.le_of_ble_eq_true rfl⟩ ⟨Nat.le_of_ble_eq_true rfl, Nat.le_of_ble_eq_true rfl⟩ dL_joins_31 (fun g z H locs hs hP hD hS => ?_)
  refine lv_if_eq (tgt := 175) C.hx C.hb dL_joins_34 (by decide) (fun c9 => absurd c9 (by decide +kernel)) (fun _ => ?_)
  refine lv_aload_n C.hx C.hb dL_joins_37 rfl (lv_at hl 0 rfl) ?_
  refine lv_bipush (v := nI 7) C.hx C.hb dL_joins_38 (by decide +kernel) ?_
  refine lv_bipush (v := nI 8) C.hx C.hb dL_joins_40 (by decide +kernel) ?_
  refine q_cP (L := S36) (L' := S36) (r := nI 1) (c2 := 0) (s2 := 0) (As := [.int (nI 7), .int (nI 8)]) C hs hP hD hS (cs_Lbest C.htr 7 8 (by decide +kernel)) k_L_best kl_L_113 hl rfl rfl (Nat.le_of_ble_eq_true rfl) ⟨Nat.le_of_ble_eq_true rfl, Nat.le_of_ble_eq_true rfl⟩ ⟨Nat.le_of_ble_eq_true rfl, Nat.le_of_ble_eq_true rfl⟩ ⟨Nat.le_of_ble_eq_true rfl, Nat.le_of_ble_eq_true rfl⟩ dL_joins_42 (fun g z H locs hs hP hD hS => ?_)
  refine lv_if_eq (tgt := 175) C.hx C.hb dL_joins_45 (by decide) (fun c9 => absurd c9 (by decide +kernel)) (fun _ => ?_)
  refine lv_aload_n C.hx C.hb dL_joins_48 rfl (lv_at hl 0 rfl) ?_
  refine lv_bipush (v := nI 9) C.hx C.hb dL_joins_49 (by decide +kernel) ?_
  refine lv_iconst (v := nI 0) C.hx C.hb dL_joins_51 (by decide +kernel) ?_
  refine q_cP (L := S36) (L' := S36) (r := nI 1) (c2 := 0) (s2 := 0) (As := [.int (nI 9), .int (nI 0)]) C hs hP hD hS (cs_Lbest C.htr 9 0 (by decide +kernel)) k_L_best kl_L_113 hl rfl rfl (Nat.le_of_ble_eq_true rfl) ⟨Nat.le_of_ble_eq_true rfl, Nat.le_of_ble_eq_true rfl⟩ ⟨Nat.le_of_ble_eq_true rfl, Nat.le_of_ble_eq_true rfl⟩ ⟨Nat.le_of_ble_eq_true rfl, Nat.le_of_ble_eq_true rfl⟩ dL_joins_52 (fun g z H locs hs hP hD hS => ?_)
  refine lv_if_eq (tgt := 175) C.hx C.hb dL_joins_55 (by decide) (fun c9 => absurd c9 (by decide +kernel)) (fun _ => ?_)
  refine lv_aload_n C.hx C.hb dL_joins_58 rfl (lv_at hl 0 rfl) ?_
  refine lv_bipush (v := nI 24) C.hx C.hb dL_joins_59 (by decide +kernel) ?_
  refine lv_iconst (v := nI 2) C.hx C.hb dL_joins_61 (by decide +kernel) ?_
  refine q_cP (L := S36) (L' := S36) (r := nI 1) (c2 := 0) (s2 := 0) (As := [.int (nI 24), .int (nI 2)]) C hs hP hD hS (cs_Lbest C.htr 24 2 (by decide +kernel)) k_L_best kl_L_113 hl rfl rfl (Nat.le_of_ble_eq_true rfl) ⟨Nat.le_of_ble_eq_true rfl, Nat.le_of_ble_eq_true rfl⟩ ⟨Nat.le_of_ble_eq_true rfl, Nat.le_of_ble_eq_true rfl⟩ ⟨Nat.le_of_ble_eq_true rfl, Nat.le_of_ble_eq_true rfl⟩ dL_joins_62 (fun g z H locs hs hP hD hS => ?_)
  refine lv_if_eq (tgt := 175) C.hx C.hb dL_joins_65 (by decide) (fun c9 => absurd c9 (by decide +kernel)) (fun _ => ?_)
  refine lv_aload_n C.hx C.hb dL_joins_68 rfl (lv_at hl 0 rfl) ?_
  refine lv_bipush (v := nI 10) C.hx C.hb dL_joins_69 (by decide +kernel) ?_
  refine lv_iconst (v := nI 3) C.hx C.hb dL_joins_71 (by decide +kernel) ?_
  refine q_cP (L := S36) (L' := S36) (r := nI 1) (c2 := 0) (s2 := 0) (As := [.int (nI 10), .int (nI 3)]) C hs hP hD hS (cs_Lbest C.htr 10 3 (by decide +kernel)) k_L_best kl_L_113 hl rfl rfl (Nat.le_of_ble_eq_true rfl) ⟨Nat.le_of_ble_eq_true rfl, Nat.le_of_ble_eq_true rfl⟩ ⟨Nat.le_of_ble_eq_true rfl, Nat.le_of_ble_eq_true rfl⟩ ⟨Nat.le_of_ble_eq_true rfl, Nat.le_of_ble_eq_true rfl⟩ dL_joins_72 (fun g z H locs hs hP hD hS => ?_)
  refine lv_if_eq (tgt := 175) C.hx C.hb dL_joins_75 (by decide) (fun c9 => absurd c9 (by decide +kernel)) (fun _ => ?_)
  refine lv_aload_n C.hx C.hb dL_joins_78 rfl (lv_at hl 0 rfl) ?_
  refine lv_bipush (v := nI 26) C.hx C.hb dL_joins_79 (by decide +kernel) ?_
  refine lv_iconst (v := nI 3) C.hx C.hb dL_joins_81 (by decide +kernel) ?_
  refine q_cP (L := S36) (L' := S36) (r := nI 1) (c2 := 0) (s2 := 0) (As := [.int (nI 26), .int (nI 3)]) C hs hP hD hS (cs_Lbest C.htr 26 3 (by decide +kernel)) k_L_best kl_L_113 hl rfl rfl (Nat.le_of_ble_eq_true rfl) ⟨Nat.le_of_ble_eq_true rfl, Nat.le_of_ble_eq_true rfl⟩ ⟨Nat.le_of_ble_eq_true rfl, Nat.le_of_ble_eq_true rfl⟩ ⟨Nat.le_of_ble_eq_true rfl, Nat.le_of_ble_eq_true rfl⟩ dL_joins_82 (fun g z H locs hs hP hD hS => ?_)
  refine lv_if_eq (tgt := 175) C.hx C.hb dL_joins_85 (by decide) (fun c9 => absurd c9 (by decide +kernel)) (fun _ => ?_)
  refine lv_aload_n C.hx C.hb dL_joins_88 rfl (lv_at hl 0 rfl) ?_
  refine lv_bipush (v := nI 31) C.hx C.hb dL_joins_89 (by decide +kernel) ?_
  refine lv_bipush (v := nI 10) C.hx C.hb dL_joins_91 (by decide +kernel) ?_
  refine q_cP (L := S36) (L' := S36) (r := nI 1) (c2 := 0) (s2 := 0) (As := [.int (nI 31), .int (nI 10)]) C hs hP hD hS (cs_Lbest C.htr 31 10 (by decide +kernel)) k_L_best kl_L_113 hl rfl rfl (Nat.le_of_ble_eq_true rfl) ⟨Nat.le_of_ble_eq_true rfl, Nat.le_of_ble_eq_true rfl⟩ ⟨Nat.le_of_ble_eq_true rfl, Nat.le_of_ble_eq_true rfl⟩ ⟨Nat.le_of_ble_eq_true rfl, Nat.le_of_ble_eq_true rfl⟩ dL_joins_93 (fun g z H locs hs hP hD hS => ?_)
  refine lv_if_eq (tgt := 175) C.hx C.hb dL_joins_96 (by decide) (fun c9 => absurd c9 (by decide +kernel)) (fun _ => ?_)
  refine lv_aload_n C.hx C.hb dL_joins_99 rfl (lv_at hl 0 rfl) ?_
  refine lv_iconst (v := nI 0) C.hx C.hb dL_joins_100 (by decide +kernel) ?_
  refine lv_iconst (v := nI 1) C.hx C.hb dL_joins_101 (by decide +kernel) ?_
  refine lv_iconst (v := nI 1) C.hx C.hb dL_joins_102 (by decide +kernel) ?_
  refine q_cO (L := S36) (L' := S37) (As := [.int (nI 0), .int (nI 1), .int (q_b true)]) C hs hP hD hS (cs_block S37 0 1 true false (by decide +kernel)) k_X5_block kl_L_42 rfl hl rfl rfl (Nat.le_of_ble_eq_true rfl) ⟨⟨rfl, rfl⟩, Nat.le_of_ble_eq_true rfl, Nat.le_of_ble_eq_true rfl⟩ ⟨Nat.le_of_ble_eq_true rfl, Nat.le_of_ble_eq_true rfl⟩ dL_joins_103 (fun g z H locs hs hP hD hS => ?_)
  refine lv_if_ne (tgt := 175) C.hx C.hb dL_joins_106 (by decide) (fun c9 => absurd c9 (by decide +kernel)) (fun _ => ?_)
  refine lv_aload_n C.hx C.hb dL_joins_109 rfl (lv_at hl 0 rfl) ?_
  refine lv_iconst (v := nI 3) C.hx C.hb dL_joins_110 (by decide +kernel) ?_
  refine lv_iconst (v := nI 0) C.hx C.hb dL_joins_111 (by decide +kernel) ?_
  refine q_cP (L := S37) (L' := S37) (r := nI 1) (c2 := 0) (s2 := 0) (As := [.int (nI 3), .int (nI 0)]) C hs hP hD hS (cs_Lbest C.htr 3 0 (by decide +kernel)) k_L_best kl_L_113 hl rfl rfl (Nat.le_of_ble_eq_true rfl) ⟨Nat.le_of_ble_eq_true rfl, Nat.le_of_ble_eq_true rfl⟩ ⟨Nat.le_of_ble_eq_true rfl, Nat.le_of_ble_eq_true rfl⟩ ⟨Nat.le_of_ble_eq_true rfl, Nat.le_of_ble_eq_true rfl⟩ dL_joins_112 (fun g z H locs hs hP hD hS => ?_)
  refine lv_if_eq (tgt := 175) C.hx C.hb dL_joins_115 (by decide) (fun c9 => absurd c9 (by decide +kernel)) (fun _ => ?_)
  exact kk g z H locs ls hs hP hD hS hl

set_option maxRecDepth 100000 in
set_option maxHeartbeats 4000000 in
theorem tr_joins_end {p : Program} {l : Launch} {e : Env} {s : State} {m : MethodId} {args : Array Value} {below : List Frame} {meth : Method} {c : Code} {D : va_G} {cA : ClassId} {A : Nat → Prop} {ad : Nat → Nat} (C : lcx p l s m c cL_joins 1 D cA A) (hr : meth.sig.returnType = some .boolean) (hlk : meth.locks = false) : ∀ (g : Nat → Nat → Int32) (z : Nat → Nat) (H : Heap) (locs : List Loc) (ls : Array Slot), isL S37 g z → va_P D vwCl (rlW cA ad g z) H → va_D A (rlW cA ad g z) → va_S A s.heap H locs → lv_has ls 1 [(0, .ref (ad 70))] → W p l e rm_Ljoins s m args below meth c H locs 0 0 (q_GL D (nI 1) (q_BG cA ad (isL S36)) A below args s 0 0) (F0 m 118 ls []) := by
  intro g z H locs ls hs hP hD hS hl
  refine lv_aload_n C.hx C.hb dL_joins_118 rfl (lv_at hl 0 rfl) ?_
  refine lv_bipush (v := nI 7) C.hx C.hb dL_joins_119 (by decide +kernel) ?_
  refine lv_iconst (v := nI 4) C.hx C.hb dL_joins_121 (by decide +kernel) ?_
  refine q_cP (L := S37) (L' := S37) (r := nI 1) (c2 := 0) (s2 := 0) (As := [.int (nI 7), .int (nI 4)]) C hs hP hD hS (cs_Lbest C.htr 7 4 (by decide +kernel)) k_L_best kl_L_113 hl rfl rfl (Nat.le_of_ble_eq_true rfl) ⟨Nat.le_of_ble_eq_true rfl, Nat.le_of_ble_eq_true rfl⟩ ⟨Nat.le_of_ble_eq_true rfl, Nat.le_of_ble_eq_true rfl⟩ ⟨Nat.le_of_ble_eq_true rfl, Nat.le_of_ble_eq_true rfl⟩ dL_joins_122 (fun g z H locs hs hP hD hS => ?_)
  refine lv_if_eq (tgt := 175) C.hx C.hb dL_joins_125 (by decide) (fun c9 => absurd c9 (by decide +kernel)) (fun _ => ?_)
  refine lv_aload_n C.hx C.hb dL_joins_128 rfl (lv_at hl 0 rfl) ?_
  refine lv_bipush (v := nI 31) C.hx C.hb dL_joins_129 (by decide +kernel) ?_
  refine lv_bipush (v := nI 7) C.hx C.hb dL_joins_131 (by decide +kernel) ?_
  refine q_cP (L := S37) (L' := S37) (r := nI 1) (c2 := 0) (s2 := 0) (As := [.int (nI 31), .int (nI 7)]) C hs hP hD hS (cs_Lbest C.htr 31 7 (by decide +kernel)) k_L_best kl_L_113 hl rfl rfl (Nat.le_of_ble_eq_true rfl) ⟨Nat.le_of_ble_eq_true rfl, Nat.le_of_ble_eq_true rfl⟩ ⟨Nat.le_of_ble_eq_true rfl, Nat.le_of_ble_eq_true rfl⟩ ⟨Nat.le_of_ble_eq_true rfl, Nat.le_of_ble_eq_true rfl⟩ dL_joins_133 (fun g z H locs hs hP hD hS => ?_)
  refine lv_if_eq (tgt := 175) C.hx C.hb dL_joins_136 (by decide) (fun c9 => absurd c9 (by decide +kernel)) (fun _ => ?_)
  refine lv_aload_n C.hx C.hb dL_joins_139 rfl (lv_at hl 0 rfl) ?_
  refine lv_iconst (v := nI 1) C.hx C.hb dL_joins_140 (by decide +kernel) ?_
  refine lv_iconst (v := nI 0) C.hx C.hb dL_joins_141 (by decide +kernel) ?_
  refine lv_iconst (v := nI 0) C.hx C.hb dL_joins_142 (by decide +kernel) ?_
  refine q_cO (L := S37) (L' := S36) (As := [.int (nI 1), .int (nI 0), .int (q_b false)]) C hs hP hD hS (cs_block S36 1 0 false true (by decide +kernel)) k_X5_block kl_L_42 rfl hl rfl rfl (Nat.le_of_ble_eq_true rfl) ⟨⟨rfl, rfl⟩, Nat.le_of_ble_eq_true rfl, Nat.le_of_ble_eq_true rfl⟩ ⟨Nat.le_of_ble_eq_true rfl, Nat.le_of_ble_eq_true rfl⟩ dL_joins_143 (fun g z H locs hs hP hD hS => ?_)
  refine lv_if_eq (tgt := 175) C.hx C.hb dL_joins_146 (by decide) (fun c9 => absurd c9 (by decide +kernel)) (fun _ => ?_)
  refine lv_aload_n C.hx C.hb dL_joins_149 rfl (lv_at hl 0 rfl) ?_
  refine lv_bipush (v := nI 31) C.hx C.hb dL_joins_150 (by decide +kernel) ?_
  refine lv_bipush (v := nI 10) C.hx C.hb dL_joins_152 (by decide +kernel) ?_
  refine q_cP (L := S36) (L' := S36) (r := nI 1) (c2 := 0) (s2 := 0) (As := [.int (nI 31), .int (nI 10)]) C hs hP hD hS (cs_Lbest C.htr 31 10 (by decide +kernel)) k_L_best kl_L_113 hl rfl rfl (Nat.le_of_ble_eq_true rfl) ⟨Nat.le_of_ble_eq_true rfl, Nat.le_of_ble_eq_true rfl⟩ ⟨Nat.le_of_ble_eq_true rfl, Nat.le_of_ble_eq_true rfl⟩ ⟨Nat.le_of_ble_eq_true rfl, Nat.le_of_ble_eq_true rfl⟩ dL_joins_154 (fun g z H locs hs hP hD hS => ?_)
  refine lv_if_eq (tgt := 175) C.hx C.hb dL_joins_157 (by decide) (fun c9 => absurd c9 (by decide +kernel)) (fun _ => ?_)
  refine lv_aload_n C.hx C.hb dL_joins_160 rfl (lv_at hl 0 rfl) ?_
  refine lv_bipush (v := nI 63) C.hx C.hb dL_joins_161 (by decide +kernel) ?_
  refine lv_bipush (v := nI 15) C.hx C.hb dL_joins_163 (by decide +kernel) ?_
  refine q_cP (L := S36) (L' := S36) (r := nI 1) (c2 := 0) (s2 := 0) (As := [.int (nI 63), .int (nI 15)]) C hs hP hD hS (cs_Lbest C.htr 63 15 (by decide +kernel)) k_L_best kl_L_113 hl rfl rfl (Nat.le_of_ble_eq_true rfl) ⟨Nat.le_of_ble_eq_true rfl, Nat.le_of_ble_eq_true rfl⟩ ⟨Nat.le_of_ble_eq_true rfl, Nat.le_of_ble_eq_true rfl⟩ ⟨Nat.le_of_ble_eq_true rfl, Nat.le_of_ble_eq_true rfl⟩ dL_joins_165 (fun g z H locs hs hP hD hS => ?_)
  refine lv_if_eq (tgt := 175) C.hx C.hb dL_joins_168 (by decide) (fun c9 => absurd c9 (by decide +kernel)) (fun _ => ?_)
  refine lv_iconst (v := nI 1) C.hx C.hb dL_joins_171 (by decide +kernel) ?_
  refine lv_goto (tgt := 176) C.hx C.hb dL_joins_172 (by decide) ?_
  exact q_lzret C.hx C.hb hr hlk (Or.inr rfl) rfl ⟨g, z, rfl, hs⟩ hP hS (Nat.le_of_ble_eq_true rfl) (Nat.le_of_ble_eq_true rfl) dL_joins_176

theorem t_joins {l : Launch} (htr : l.stackTraces = false) {D : va_G} {cA : ClassId} {ad : Nat → Nat} : csl l yL_joins [Cond.code yL_joins cL_joins 1 (some .boolean)] rm_Ljoins D cA ad [] S36 S36 (nI 1) := by
  intro g z hs
  refine q_startP RL (by decide +kernel) rfl (Nat.le_of_ble_eq_true rfl) ?_
  intro p e s m below meth c A args H locs ls hx hb hr hml hown hT hlk hP hK hD hA hS hl hX hN hZ
  have C : lcx p l s m c cL_joins 1 D cA A := ⟨hx, hb, hml, hown, hT, hK, hA, hX, hN, hZ, htr⟩
  exact tr_joins_0 C (tr_joins_end C hr hlk) g z H locs ls hs hP hD hS hl

