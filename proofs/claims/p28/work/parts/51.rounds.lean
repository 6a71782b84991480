abbrev rm_Lrounds : Room := { frames := 11, cells := 200, slots := 2000, locals := 250 }
set_option maxRecDepth 100000 in
set_option maxHeartbeats 4000000 in
theorem tr_rounds_0 {p : Program} {l : Launch} {e : Env} {s : State} {m : MethodId} {args : Array Value} {below : List Frame} {meth : Method} {c : Code} {D : va_G} {cA : ClassId} {A : Nat → Prop} {ad : Nat → Nat} {Q : State → Prop} (C : lcx p l s m c cL_rounds 1 D cA A) (kk : ∀ (g : Nat → Nat → Int32) (z : Nat → Nat) (H : Heap) (locs : List Loc) (ls : Array Slot), isL S180 g z → va_P D vwCl (rlW cA ad g z) H → va_D A (rlW cA ad g z) → va_S A s.heap H locs → lv_has ls 1 [(0, .ref (ad 70))] → W p l e rm_Lrounds s m args below meth c H locs 68 985 Q (F0 m 113 ls [])) : ∀ (g : Nat → Nat → Int32) (z : Nat → Nat) (H : Heap) (locs : List Loc) (ls : Array Slot), isL S0 g z → va_P D vwCl (rlW cA ad g z) H → va_D A (rlW cA ad g z) → va_S A s.heap H locs → lv_has ls 1 [(0, .ref (ad 70))] → W p l e rm_Lrounds s m args below meth c H locs 66 973 Q (F0 m 8 ls []) := by
  intro g z H locs ls hs hP hD hS hl
  refine lv_aload_n C.hx C.hb dL_rounds_8 rfl (lv_at hl 0 rfl) ?_
  refine lv_iconst (v := nI 0) C.hx C.hb dL_rounds_9 (by decide +kernel) ?_
  refine lv_iconst (v := -1) C.hx C.hb dL_rounds_10 (by decide +kernel) ?_
  refine lv_iconst (v := nI 0) C.hx C.hb dL_rounds_11 (by decide +kernel) ?_
  refine lv_iconst (v := -1) C.hx C.hb dL_rounds_12 (by decide +kernel) ?_
  refine q_cO (L := S0) (L' := S174) (As := [.int (nI 0), .int (-1), .int (nI 0), .int (-1)]) C hs hP hD hS (cs_mention S174 (nI 0) (-1) (nI 0) (-1) (Or.inl rfl) 0 (by decide +kernel)) k_X5_mention kl_L_7 rfl hl rfl rfl (Nat.le_of_ble_eq_true rfl) ⟨⟨rfl, rfl⟩, Nat.le_of_ble_eq_true rfl, Nat.le_of_ble_eq_true rfl⟩ ⟨Nat.le_of_ble_eq_true rfl, Nat.le_of_ble_eq_true rfl⟩ dL_rounds_13 (fun g z H locs hs hP hD hS => ?_)
  refine lv_pop C.hx C.hb dL_rounds_16 rfl ?_
  refine lv_aload_n C.hx C.hb dL_rounds_17 rfl (lv_at hl 0 rfl) ?_
  refine lv_iconst (v := nI 0) C.hx C.hb dL_rounds_18 (by decide +kernel) ?_
  refine lv_iconst (v := -1) C.hx C.hb dL_rounds_19 (by decide +kernel) ?_
  refine lv_iconst (v := nI 0) C.hx C.hb dL_rounds_20 (by decide +kernel) ?_
  refine lv_iconst (v := -1) C.hx C.hb dL_rounds_21 (by decide +kernel) ?_
  refine q_cO (L := S174) (L' := S175) (As := [.int (nI 0), .int (-1), .int (nI 0), .int (-1)]) C hs hP hD hS (cs_mention S175 (nI 0) (-1) (nI 0) (-1) (Or.inl rfl) 1 (by decide +kernel)) k_X5_mention kl_L_7 rfl hl rfl rfl (Nat.le_of_ble_eq_true rfl) ⟨⟨rfl, rfl⟩, Nat.le_of_ble_eq_true rfl, Nat.le_of_ble_eq_true rfl⟩ ⟨Nat.le_of_ble_eq_true rfl, Nat.le_of_ble_eq_true rfl⟩ dL_rounds_22 (fun g z H locs hs hP hD hS => ?_)
  refine lv_pop C.hx C.hb dL_rounds_25 rfl ?_
  refine lv_aload_n C.hx C.hb dL_rounds_26 rfl (lv_at hl 0 rfl) ?_
  refine lv_iconst (v := nI 0) C.hx C.hb dL_rounds_27 (by decide +kernel) ?_
  refine lv_iconst (v := -1) C.hx C.hb dL_rounds_28 (by decide +kernel) ?_
  refine lv_iconst (v := nI 0) C.hx C.hb dL_rounds_29 (by decide +kernel) ?_
  refine lv_iconst (v := -1) C.hx C.hb dL_rounds_30 (by decide +kernel) ?_
  refine q_cO (L := S175) (L' := S176) (As := [.int (nI 0), .int (-1), .int (nI 0), .int (-1)]) C hs hP hD hS (cs_mention S176 (nI 0) (-1) (nI 0) (-1) (Or.inl rfl) 2 (by decide +kernel)) k_X5_mention kl_L_7 rfl hl rfl rfl (Nat.le_of_ble_eq_true rfl) ⟨⟨rfl, rfl⟩, Nat.le_of_ble_eq_true rfl, Nat.le_of_ble_eq_true rfl⟩ ⟨Nat.le_of_ble_eq_true rfl, Nat.le_of_ble_eq_true rfl⟩ dL_rounds_31 (fun g z H locs hs hP hD hS => ?_)
  refine lv_pop C.hx C.hb dL_rounds_34 rfl ?_
  refine lv_aload_n C.hx C.hb dL_rounds_35 rfl (lv_at hl 0 rfl) ?_
  refine lv_iconst (v := nI 0) C.hx C.hb dL_rounds_36 (by decide +kernel) ?_
  refine lv_iconst (v := nI 1) C.hx C.hb dL_rounds_37 (by decide +kernel) ?_
  refine lv_bipush (v := nI 30) C.hx C.hb dL_rounds_38 (by decide +kernel) ?_
  refine q_cO (L := S176) (L' := S177) (As := [.int (nI 0), .int (nI 1), .int (nI 30)]) C hs hP hD hS (cs_ahead S177 0 1 (nI 30) 2 (by decide +kernel)) k_X5_ahead kl_L_21 rfl hl rfl rfl (Nat.le_of_ble_eq_true rfl) ⟨⟨rfl, rfl⟩, Nat.le_of_ble_eq_true rfl, Nat.le_of_ble_eq_true rfl⟩ ⟨Nat.le_of_ble_eq_true rfl, Nat.le_of_ble_eq_true rfl⟩ dL_rounds_40 (fun g z H locs hs hP hD hS => ?_)
  refine lv_iconst (v := nI 2) C.hx C.hb dL_rounds_43 (by decide +kernel) ?_
  refine lv_icmp_ne (tgt := 340) C.hx C.hb dL_rounds_44 (by decide) (fun c9 => absurd c9 (by decide +kernel)) (fun _ => ?_)
  refine lv_aload_n C.hx C.hb dL_rounds_47 rfl (lv_at hl 0 rfl) ?_
  refine lv_iconst (v := nI 0) C.hx C.hb dL_rounds_48 (by decide +kernel) ?_
  refine lv_iconst (v := nI 0) C.hx C.hb dL_rounds_49 (by decide +kernel) ?_
  refine lv_sipush (v := nI 969) C.hx C.hb dL_rounds_50 (by decide +kernel) ?_
  refine q_cP (L := S177) (L' := S177) (r := nI 1) (c2 := 66) (s2 := 973) (As := [.int (nI 0), .int (nI 0), .int (nI 969)]) C hs hP hD hS (cs_Lyears C.htr 0 0 969 (by decide +kernel)) k_L_years kl_L_118 hl rfl rfl (Nat.le_of_ble_eq_true rfl) ⟨Nat.le_of_ble_eq_true rfl, Nat.le_of_ble_eq_true rfl⟩ ⟨Nat.le_of_ble_eq_true rfl, Nat.le_of_ble_eq_true rfl⟩ ⟨Nat.le_of_ble_eq_true rfl, Nat.le_of_ble_eq_true rfl⟩ dL_rounds_53 (fun g z H locs hs hP hD hS => ?_)
  refine lv_if_eq (tgt := 340) C.hx C.hb dL_rounds_56 (by decide) (fun c9 => absurd c9 (by decide +kernel)) (fun _ => ?_)
  refine lv_aload_n C.hx C.hb dL_rounds_59 rfl (lv_at hl 0 rfl) ?_
  refine lv_iconst (v := nI 1) C.hx C.hb dL_rounds_60 (by decide +kernel) ?_
  refine lv_bipush (v := nI 30) C.hx C.hb dL_rounds_61 (by decide +kernel) ?_
  refine lv_sipush (v := nI 999) C.hx C.hb dL_rounds_63 (by decide +kernel) ?_
  refine q_cP (L := S177) (L' := S177) (r := nI 1) (c2 := 66) (s2 := 973) (As := [.int (nI 1), .int (nI 30), .int (nI 999)]) C hs hP hD hS (cs_Lyears C.htr 1 30 999 (by decide +kernel)) k_L_years kl_L_118 hl rfl rfl (Nat.le_of_ble_eq_true rfl) ⟨Nat.le_of_ble_eq_true rfl, Nat.le_of_ble_eq_true rfl⟩ ⟨Nat.le_of_ble_eq_true rfl, Nat.le_of_ble_eq_true rfl⟩ ⟨Nat.le_of_ble_eq_true rfl, Nat.le_of_ble_eq_true rfl⟩ dL_rounds_66 (fun g z H locs hs hP hD hS => ?_)
  refine lv_if_eq (tgt := 340) C.hx C.hb dL_rounds_69 (by decide) (fun c9 => absurd c9 (by decide +kernel)) (fun _ => ?_)
  refine lv_aload_n C.hx C.hb dL_rounds_72 rfl (lv_at hl 0 rfl) ?_
  refine lv_iconst (v := nI 3) C.hx C.hb dL_rounds_73 (by decide +kernel) ?_
  refine lv_iconst (v := nI 1) C.hx C.hb dL_rounds_74 (by decide +kernel) ?_
  refine lv_iconst (v := nI 0) C.hx C.hb dL_rounds_75 (by decide +kernel) ?_
  refine lv_bipush (v := -29) C.hx C.hb dL_rounds_76 (by decide +kernel) ?_
  refine lv_iconst (v := nI 0) C.hx C.hb dL_rounds_78 (by decide +kernel) ?_
  refine q_cA (L := S177) (L' := S178) (r := -7000003) (c2 := 67) (s2 := 979) (As := [.int (nI 3), .int (nI 1), .int (nI 0), .int (-29), .int (nI 0)]) C hs hP hD hS (cx_ahead C.htr S178 1 0 (-29) (nI 0) (by decide +kernel)) kl_L_102 hl rfl rfl (Nat.le_of_ble_eq_true rfl) ⟨Nat.le_of_ble_eq_true rfl, Nat.le_of_ble_eq_true rfl⟩ ⟨Nat.le_of_ble_eq_true rfl, Nat.le_of_ble_eq_true rfl⟩ ⟨Nat.le_of_ble_eq_true rfl, Nat.le_of_ble_eq_true rfl⟩ dL_rounds_79 (fun g z H locs hs hP hD hS => ?_)
  refine lv_ldc (v := -7000003) C.hx C.hb C.hown (C.hT.use kk_L_96 args) dL_rounds_82 ?_
  refine lv_icmp_ne (tgt := 340) C.hx C.hb dL_rounds_84 (by decide) (fun c9 => absurd c9 (by decide +kernel)) (fun _ => ?_)
  refine lv_aload_n C.hx C.hb dL_rounds_87 rfl (lv_at hl 0 rfl) ?_
  refine lv_iconst (v := nI 3) C.hx C.hb dL_rounds_88 (by decide +kernel) ?_
  refine lv_iconst (v := nI 1) C.hx C.hb dL_rounds_89 (by decide +kernel) ?_
  refine lv_iconst (v := nI 0) C.hx C.hb dL_rounds_90 (by decide +kernel) ?_
  refine lv_bipush (v := nI 50) C.hx C.hb dL_rounds_91 (by decide +kernel) ?_
  refine lv_iconst (v := nI 0) C.hx C.hb dL_rounds_93 (by decide +kernel) ?_
  refine q_cA (L := S178) (L' := S179) (r := -7000003) (c2 := 68) (s2 := 985) (As := [.int (nI 3), .int (nI 1), .int (nI 0), .int (nI 50), .int (nI 0)]) C hs hP hD hS (cx_ahead C.htr S179 1 0 (nI 50) (nI 0) (by decide +kernel)) kl_L_102 hl rfl rfl (Nat.le_of_ble_eq_true rfl) ⟨Nat.le_of_ble_eq_true rfl, Nat.le_of_ble_eq_true rfl⟩ ⟨Nat.le_of_ble_eq_true rfl, Nat.le_of_ble_eq_true rfl⟩ ⟨Nat.le_of_ble_eq_true rfl, Nat.le_of_ble_eq_true rfl⟩ dL_rounds_94 (fun g z H locs hs hP hD hS => ?_)
  refine lv_ldc (v := -7000003) C.hx C.hb C.hown (C.hT.use kk_L_96 args) dL_rounds_97 ?_
  refine lv_icmp_ne (tgt := 340) C.hx C.hb dL_rounds_99 (by decide) (fun c9 => absurd c9 (by decide +kernel)) (fun _ => ?_)
  refine lv_aload_n C.hx C.hb dL_rounds_102 rfl (lv_at hl 0 rfl) ?_
  refine lv_iconst (v := nI 1) C.hx C.hb dL_rounds_103 (by decide +kernel) ?_
  refine lv_iconst (v := nI 0) C.hx C.hb dL_rounds_104 (by decide +kernel) ?_
  refine lv_bipush (v := -30) C.hx C.hb dL_rounds_105 (by decide +kernel) ?_
  refine q_cO (L := S179) (L' := S180) (As := [.int (nI 1), .int (nI 0), .int (-30)]) C hs hP hD hS (cs_ahead S180 1 0 (-30) 0 (by decide +kernel)) k_X5_ahead kl_L_21 rfl hl rfl rfl (Nat.le_of_ble_eq_true rfl) ⟨⟨rfl, rfl⟩, Nat.le_of_ble_eq_true rfl, Nat.le_of_ble_eq_true rfl⟩ ⟨Nat.le_of_ble_eq_true rfl, Nat.le_of_ble_eq_true rfl⟩ dL_rounds_107 (fun g z H locs hs hP hD hS => ?_)
  refine lv_if_ne (tgt := 340) C.hx C.hb dL_rounds_110 (by decide) (fun c9 => absurd c9 (by decide +kernel)) (fun _ => ?_)
  exact kk g z H locs ls hs hP hD hS hl

set_option maxRecDepth 100000 in
set_option maxHeartbeats 4000000 in
theorem tr_rounds_1 {p : Program} {l : Launch} {e : Env} {s : State} {m : MethodId} {args : Array Value} {below : List Frame} {meth : Method} {c : Code} {D : va_G} {cA : ClassId} {A : Nat → Prop} {ad : Nat → Nat} {Q : State → Prop} (C : lcx p l s m c cL_rounds 1 D cA A) (kk : ∀ (g : Nat → Nat → Int32) (z : Nat → Nat) (H : Heap) (locs : List Loc) (ls : Array Slot), isL S184 g z → va_P D vwCl (rlW cA ad g z) H → va_D A (rlW cA ad g z) → va_S A s.heap H locs → lv_has ls 1 [(0, .ref (ad 70))] → W p l e rm_Lrounds s m args below meth c H locs 69 991 Q (F0 m 245 ls [])) : ∀ (g : Nat → Nat → Int32) (z : Nat → Nat) (H : Heap) (locs : List Loc) (ls : Array Slot), isL S180 g z → va_P D vwCl (rlW cA ad g z) H → va_D A (rlW cA ad g z) → va_S A s.heap H locs → lv_has ls 1 [(0, .ref (ad 70))] → W p l e rm_Lrounds s m args below meth c H locs 68 985 Q (F0 m 113 ls []) := by
  intro g z H locs ls hs hP hD hS hl
  refine lv_aload_n C.hx C.hb dL_rounds_113 rfl (lv_at hl 0 rfl) ?_
  refine lv_iconst (v := nI 1) C.hx C.hb dL_rounds_114 (by decide +kernel) ?_
  refine lv_iconst (v := nI 2) C.hx C.hb dL_rounds_115 (by decide +kernel) ?_
  refine lv_bipush (v := nI 50) C.hx C.hb dL_rounds_116 (by decide +kernel) ?_
  refine q_cO (L := S180) (L' := S181) (As := [.int (nI 1), .int (nI 2), .int (nI 50)]) C hs hP hD hS (cs_ahead S181 1 2 (nI 50) 3 (by decide +kernel)) k_X5_ahead kl_L_21 rfl hl rfl rfl (Nat.le_of_ble_eq_true rfl) ⟨⟨rfl, rfl⟩, Nat.le_of_ble_eq_true rfl, Nat.le_of_ble_eq_true rfl⟩ ⟨Nat.le_of_ble_eq_true rfl, Nat.le_of_ble_eq_true rfl⟩ dL_rounds_118 (fun g z H locs hs hP hD hS => ?_)
  refine lv_iconst (v := nI 3) C.hx C.hb dL_rounds_121 (by decide +kernel) ?_
  refine lv_icmp_ne (tgt := 340) C.hx C.hb dL_rounds_122 (by decide) (fun c9 => absurd c9 (by decide +kernel)) (fun _ => ?_)
  refine lv_aload_n C.hx C.hb dL_rounds_125 rfl (lv_at hl 0 rfl) ?_
  refine lv_iconst (v := nI 0) C.hx C.hb dL_rounds_126 (by decide +kernel) ?_
  refine lv_iconst (v := nI 0) C.hx C.hb dL_rounds_127 (by decide +kernel) ?_
  refine lv_sipush (v := nI 919) C.hx C.hb dL_rounds_128 (by decide +kernel) ?_
  refine q_cP (L := S181) (L' := S181) (r := nI 1) (c2 := 68) (s2 := 985) (As := [.int (nI 0), .int (nI 0), .int (nI 919)]) C hs hP hD hS (cs_Lyears C.htr 0 0 919 (by decide +kernel)) k_L_years kl_L_118 hl rfl rfl (Nat.le_of_ble_eq_true rfl) ⟨Nat.le_of_ble_eq_true rfl, Nat.le_of_ble_eq_true rfl⟩ ⟨Nat.le_of_ble_eq_true rfl, Nat.le_of_ble_eq_true rfl⟩ ⟨Nat.le_of_ble_eq_true rfl, Nat.le_of_ble_eq_true rfl⟩ dL_rounds_131 (fun g z H locs hs hP hD hS => ?_)
  refine lv_if_eq (tgt := 340) C.hx C.hb dL_rounds_134 (by decide) (fun c9 => absurd c9 (by decide +kernel)) (fun _ => ?_)
  refine lv_aload_n C.hx C.hb dL_rounds_137 rfl (lv_at hl 0 rfl) ?_
  refine lv_iconst (v := nI 2) C.hx C.hb dL_rounds_138 (by decide +kernel) ?_
  refine lv_bipush (v := nI 80) C.hx C.hb dL_rounds_139 (by decide +kernel) ?_
  refine lv_sipush (v := nI 999) C.hx C.hb dL_rounds_141 (by decide +kernel) ?_
  refine q_cP (L := S181) (L' := S181) (r := nI 1) (c2 := 68) (s2 := 985) (As := [.int (nI 2), .int (nI 80), .int (nI 999)]) C hs hP hD hS (cs_Lyears C.htr 2 80 999 (by decide +kernel)) k_L_years kl_L_118 hl rfl rfl (Nat.le_of_ble_eq_true rfl) ⟨Nat.le_of_ble_eq_true rfl, Nat.le_of_ble_eq_true rfl⟩ ⟨Nat.le_of_ble_eq_true rfl, Nat.le_of_ble_eq_true rfl⟩ ⟨Nat.le_of_ble_eq_true rfl, Nat.le_of_ble_eq_true rfl⟩ dL_rounds_144 (fun g z H locs hs hP hD hS => ?_)
  refine lv_if_eq (tgt := 340) C.hx C.hb dL_rounds_147 (by decide) (fun c9 => absurd c9 (by decide +kernel)) (fun _ => ?_)
  refine lv_aload_n C.hx C.hb dL_rounds_150 rfl (lv_at hl 0 rfl) ?_
  refine lv_iconst (v := nI 3) C.hx C.hb dL_rounds_151 (by decide +kernel) ?_
  refine lv_iconst (v := nI 2) C.hx C.hb dL_rounds_152 (by decide +kernel) ?_
  refine lv_iconst (v := nI 0) C.hx C.hb dL_rounds_153 (by decide +kernel) ?_
  refine lv_bipush (v := -50) C.hx C.hb dL_rounds_154 (by decide +kernel) ?_
  refine lv_iconst (v := nI 0) C.hx C.hb dL_rounds_156 (by decide +kernel) ?_
  refine q_cA (L := S181) (L' := S182) (r := -7000003) (c2 := 69) (s2 := 991) (As := [.int (nI 3), .int (nI 2), .int (nI 0), .int (-50), .int (nI 0)]) C hs hP hD hS (cx_ahead C.htr S182 2 0 (-50) (nI 0) (by decide +kernel)) kl_L_102 hl rfl rfl (Nat.le_of_ble_eq_true rfl) ⟨Nat.le_of_ble_eq_true rfl, Nat.le_of_ble_eq_true rfl⟩ ⟨Nat.le_of_ble_eq_true rfl, Nat.le_of_ble_eq_true rfl⟩ ⟨Nat.le_of_ble_eq_true rfl, Nat.le_of_ble_eq_true rfl⟩ dL_rounds_157 (fun g z H locs hs hP hD hS => ?_)
  refine lv_ldc (v := -7000003) C.hx C.hb C.hown (C.hT.use kk_L_96 args) dL_rounds_160 ?_
  refine lv_icmp_ne (tgt := 340) C.hx C.hb dL_rounds_162 (by decide) (fun c9 => absurd c9 (by decide +kernel)) (fun _ => ?_)
  refine lv_aload_n C.hx C.hb dL_rounds_165 rfl (lv_at hl 0 rfl) ?_
  refine lv_iconst (v := nI 2) C.hx C.hb dL_rounds_166 (by decide +kernel) ?_
  refine lv_bipush (v := nI 100) C.hx C.hb dL_rounds_167 (by decide +kernel) ?_
  refine lv_sipush (v := nI 300) C.hx C.hb dL_rounds_169 (by decide +kernel) ?_
  refine q_cO (L := S182) (L' := S183) (As := [.int (nI 2), .int (nI 100), .int (nI 300)]) C hs hP hD hS (cs_find S183 2 (nI 100) (nI 300) 3 (by decide +kernel)) k_X5_find kl_L_25 rfl hl rfl rfl (Nat.le_of_ble_eq_true rfl) ⟨⟨rfl, rfl⟩, Nat.le_of_ble_eq_true rfl, Nat.le_of_ble_eq_true rfl⟩ ⟨Nat.le_of_ble_eq_true rfl, Nat.le_of_ble_eq_true rfl⟩ dL_rounds_172 (fun g z H locs hs hP hD hS => ?_)
  refine lv_iconst (v := nI 3) C.hx C.hb dL_rounds_175 (by decide +kernel) ?_
  refine lv_icmp_ne (tgt := 340) C.hx C.hb dL_rounds_176 (by decide) (fun c9 => absurd c9 (by decide +kernel)) (fun _ => ?_)
  refine lv_aload_n C.hx C.hb dL_rounds_179 rfl (lv_at hl 0 rfl) ?_
  refine lv_iconst (v := nI 0) C.hx C.hb dL_rounds_180 (by decide +kernel) ?_
  refine lv_iconst (v := nI 0) C.hx C.hb dL_rounds_181 (by decide +kernel) ?_
  refine lv_sipush (v := nI 220) C.hx C.hb dL_rounds_182 (by decide +kernel) ?_
  refine q_cP (L := S183) (L' := S183) (r := nI 1) (c2 := 69) (s2 := 991) (As := [.int (nI 0), .int (nI 0), .int (nI 220)]) C hs hP hD hS (cs_Lyears C.htr 0 0 220 (by decide +kernel)) k_L_years kl_L_118 hl rfl rfl (Nat.le_of_ble_eq_true rfl) ⟨Nat.le_of_ble_eq_true rfl, Nat.le_of_ble_eq_true rfl⟩ ⟨Nat.le_of_ble_eq_true rfl, Nat.le_of_ble_eq_true rfl⟩ ⟨Nat.le_of_ble_eq_true rfl, Nat.le_of_ble_eq_true rfl⟩ dL_rounds_185 (fun g z H locs hs hP hD hS => ?_)
  refine lv_if_eq (tgt := 340) C.hx C.hb dL_rounds_188 (by decide) (fun c9 => absurd c9 (by decide +kernel)) (fun _ => ?_)
  refine lv_aload_n C.hx C.hb dL_rounds_191 rfl (lv_at hl 0 rfl) ?_
  refine lv_iconst (v := nI 1) C.hx C.hb dL_rounds_192 (by decide +kernel) ?_
  refine lv_bipush (v := nI 30) C.hx C.hb dL_rounds_193 (by decide +kernel) ?_
  refine lv_sipush (v := nI 250) C.hx C.hb dL_rounds_195 (by decide +kernel) ?_
  refine q_cP (L := S183) (L' := S183) (r := nI 1) (c2 := 69) (s2 := 991) (As := [.int (nI 1), .int (nI 30), .int (nI 250)]) C hs hP hD hS (cs_Lyears C.htr 1 30 250 (by decide +kernel)) k_L_years kl_L_118 hl rfl rfl (Nat.le_of_ble_eq_true rfl) ⟨Nat.le_of_ble_eq_true rfl, Nat.le_of_ble_eq_true rfl⟩ ⟨Nat.le_of_ble_eq_true rfl, Nat.le_of_ble_eq_true rfl⟩ ⟨Nat.le_of_ble_eq_true rfl, Nat.le_of_ble_eq_true rfl⟩ dL_rounds_198 (fun g z H locs hs hP hD hS => ?_)
  refine lv_if_eq (tgt := 340) C.hx C.hb dL_rounds_201 (by decide) (fun c9 => absurd c9 (by decide +kernel)) (fun _ => ?_)
  refine lv_aload_n C.hx C.hb dL_rounds_204 rfl (lv_at hl 0 rfl) ?_
  refine lv_iconst (v := nI 2) C.hx C.hb dL_rounds_205 (by decide +kernel) ?_
  refine lv_bipush (v := nI 100) C.hx C.hb dL_rounds_206 (by decide +kernel) ?_
  refine lv_sipush (v := nI 300) C.hx C.hb dL_rounds_208 (by decide +kernel) ?_
  refine q_cP (L := S183) (L' := S183) (r := nI 1) (c2 := 69) (s2 := 991) (As := [.int (nI 2), .int (nI 100), .int (nI 300)]) C hs hP hD hS (cs_Lyears C.htr 2 100 300 (by decide +kernel)) k_L_years kl_L_118 hl rfl rfl (Nat.le_of_ble_eq_true rfl) ⟨Nat.le_of_ble_eq_true rfl, Nat.le_of_ble_eq_true rfl⟩ ⟨Nat.le_of_ble_eq_true rfl, Nat.le_of_ble_eq_true rfl⟩ ⟨Nat.le_of_ble_eq_true rfl, Nat.le_of_ble_eq_true rfl⟩ dL_rounds_211 (fun g z H locs hs hP hD hS => ?_)
  refine lv_if_eq (tgt := 340) C.hx C.hb dL_rounds_214 (by decide) (fun c9 => absurd c9 (by decide +kernel)) (fun _ => ?_)
  refine lv_aload_n C.hx C.hb dL_rounds_217 rfl (lv_at hl 0 rfl) ?_
  refine lv_iconst (v := nI 0) C.hx C.hb dL_rounds_218 (by decide +kernel) ?_
  refine lv_sipush (v := nI 220) C.hx C.hb dL_rounds_219 (by decide +kernel) ?_
  refine lv_sipush (v := nI 999) C.hx C.hb dL_rounds_222 (by decide +kernel) ?_
  refine q_cO (L := S183) (L' := S183) (As := [.int (nI 0), .int (nI 220), .int (nI 999)]) C hs hP hD hS (cs_wouldMove 0 (nI 220) (nI 999) (nI 3) (by decide +kernel)) k_X5_wouldMove kl_L_28 rfl hl rfl rfl (Nat.le_of_ble_eq_true rfl) ⟨⟨rfl, rfl⟩, Nat.le_of_ble_eq_true rfl, Nat.le_of_ble_eq_true rfl⟩ ⟨Nat.le_of_ble_eq_true rfl, Nat.le_of_ble_eq_true rfl⟩ dL_rounds_225 (fun g z H locs hs hP hD hS => ?_)
  refine lv_iconst (v := nI 3) C.hx C.hb dL_rounds_228 (by decide +kernel) ?_
  refine lv_icmp_ne (tgt := 340) C.hx C.hb dL_rounds_229 (by decide) (fun c9 => absurd c9 (by decide +kernel)) (fun _ => ?_)
  refine lv_aload_n C.hx C.hb dL_rounds_232 rfl (lv_at hl 0 rfl) ?_
  refine lv_iconst (v := nI 1) C.hx C.hb dL_rounds_233 (by decide +kernel) ?_
  refine lv_bipush (v := nI 60) C.hx C.hb dL_rounds_234 (by decide +kernel) ?_
  refine lv_bipush (v := nI 60) C.hx C.hb dL_rounds_236 (by decide +kernel) ?_
  refine q_cO (L := S183) (L' := S184) (As := [.int (nI 1), .int (nI 60), .int (nI 60)]) C hs hP hD hS (cs_find S184 1 (nI 60) (nI 60) 3 (by decide +kernel)) k_X5_find kl_L_25 rfl hl rfl rfl (Nat.le_of_ble_eq_true rfl) ⟨⟨rfl, rfl⟩, Nat.le_of_ble_eq_true rfl, Nat.le_of_ble_eq_true rfl⟩ ⟨Nat.le_of_ble_eq_true rfl, Nat.le_of_ble_eq_true rfl⟩ dL_rounds_238 (fun g z H locs hs hP hD hS => ?_)
  refine lv_iconst (v := nI 3) C.hx C.hb dL_rounds_241 (by decide +kernel) ?_
  refine lv_icmp_ne (tgt := 340) C.hx C.hb dL_rounds_242 (by decide) (fun c9 => absurd c9 (by decide +kernel)) (fun _ => ?_)
  exact kk g z H locs ls hs hP hD hS hl

set_option maxRecDepth 100000 in
set_option maxHeartbeats 4000000 in
theorem tr_rounds_end {p : Program} {l : Launch} {e : Env} {s : State} {m : MethodId} {args : Array Value} {below : List Frame} {meth : Method} {c : Code} {D : va_G} {cA : ClassId} {A : Nat → Prop} {ad : Nat → Nat} (C : lcx p l s m c cL_rounds 1 D cA A) (hr : meth.sig.returnType = some .boolean) (hlk : meth.locks = false) : ∀ (g : Nat → Nat → Int32) (z : Nat → Nat) (H : Heap) (locs : List Loc) (ls : Array Slot), isL S184 g z → va_P D vwCl (rlW cA ad g z) H → va_D A (rlW cA ad g z) → va_S A s.heap H locs → lv_has ls 1 [(0, .ref (ad 70))] → W p l e rm_Lrounds s m args below meth c H locs 69 991 (q_GL D (nI 1) (fun w => w = []) A below args s 200 2000) (F0 m 245 ls []) := by
  intro g z H locs ls hs hP hD hS hl
  refine lv_aload_n C.hx C.hb dL_rounds_245 rfl (lv_at hl 0 rfl) ?_
  refine lv_iconst (v := nI 0) C.hx C.hb dL_rounds_246 (by decide +kernel) ?_
  refine lv_bipush (v := nI 30) C.hx C.hb dL_rounds_247 (by decide +kernel) ?_
  refine lv_bipush (v := nI 30) C.hx C.hb dL_rounds_249 (by decide +kernel) ?_
  refine q_cP (L := S184) (L' := S184) (r := nI 1) (c2 := 69) (s2 := 991) (As := [.int (nI 0), .int (nI 30), .int (nI 30)]) C hs hP hD hS (cs_Lyears C.htr 0 30 30 (by decide +kernel)) k_L_years kl_L_118 hl rfl rfl (Nat.le_of_ble_eq_true rfl) ⟨Nat.le_of_ble_eq_true rfl, Nat.le_of_ble_eq_true rfl⟩ ⟨Nat.le_of_ble_eq_true rfl, Nat.le_of_ble_eq_true rfl⟩ ⟨Nat.le_of_ble_eq_true rfl, Nat.le_of_ble_eq_true rfl⟩ dL_rounds_251 (fun g z H locs hs hP hD hS => ?_)
  refine lv_if_eq (tgt := 340) C.hx C.hb dL_rounds_254 (by decide) (fun c9 => absurd c9 (by decide +kernel)) (fun _ => ?_)
  refine lv_aload_n C.hx C.hb dL_rounds_257 rfl (lv_at hl 0 rfl) ?_
  refine lv_iconst (v := nI 2) C.hx C.hb dL_rounds_258 (by decide +kernel) ?_
  refine lv_bipush (v := nI 110) C.hx C.hb dL_rounds_259 (by decide +kernel) ?_
  refine lv_sipush (v := nI 300) C.hx C.hb dL_rounds_261 (by decide +kernel) ?_
  refine q_cP (L := S184) (L' := S184) (r := nI 1) (c2 := 69) (s2 := 991) (As := [.int (nI 2), .int (nI 110), .int (nI 300)]) C hs hP hD hS (cs_Lyears C.htr 2 110 300 (by decide +kernel)) k_L_years kl_L_118 hl rfl rfl (Nat.le_of_ble_eq_true rfl) ⟨Nat.le_of_ble_eq_true rfl, Nat.le_of_ble_eq_true rfl⟩ ⟨Nat.le_of_ble_eq_true rfl, Nat.le_of_ble_eq_true rfl⟩ ⟨Nat.le_of_ble_eq_true rfl, Nat.le_of_ble_eq_true rfl⟩ dL_rounds_264 (fun g z H locs hs hP hD hS => ?_)
  refine lv_if_eq (tgt := 340) C.hx C.hb dL_rounds_267 (by decide) (fun c9 => absurd c9 (by decide +kernel)) (fun _ => ?_)
  refine lv_aload_n C.hx C.hb dL_rounds_270 rfl (lv_at hl 0 rfl) ?_
  refine lv_iconst (v := nI 0) C.hx C.hb dL_rounds_271 (by decide +kernel) ?_
  refine lv_bipush (v := nI 31) C.hx C.hb dL_rounds_272 (by decide +kernel) ?_
  refine lv_sipush (v := nI 999) C.hx C.hb dL_rounds_274 (by decide +kernel) ?_
  refine q_cO (L := S184) (L' := S184) (As := [.int (nI 0), .int (nI 31), .int (nI 999)]) C hs hP hD hS (cs_wouldMove 0 (nI 31) (nI 999) (-1) (by decide +kernel)) k_X5_wouldMove kl_L_28 rfl hl rfl rfl (Nat.le_of_ble_eq_true rfl) ⟨⟨rfl, rfl⟩, Nat.le_of_ble_eq_true rfl, Nat.le_of_ble_eq_true rfl⟩ ⟨Nat.le_of_ble_eq_true rfl, Nat.le_of_ble_eq_true rfl⟩ dL_rounds_277 (fun g z H locs hs hP hD hS => ?_)
  refine lv_iconst (v := -1) C.hx C.hb dL_rounds_280 (by decide +kernel) ?_
  refine lv_icmp_ne (tgt := 340) C.hx C.hb dL_rounds_281 (by decide) (fun c9 => absurd c9 (by decide +kernel)) (fun _ => ?_)
  refine lv_aload_n C.hx C.hb dL_rounds_284 rfl (lv_at hl 0 rfl) ?_
  refine lv_iconst (v := nI 2) C.hx C.hb dL_rounds_285 (by decide +kernel) ?_
  refine lv_bipush (v := nI 110) C.hx C.hb dL_rounds_286 (by decide +kernel) ?_
  refine lv_sipush (v := nI 300) C.hx C.hb dL_rounds_288 (by decide +kernel) ?_
  refine q_cO (L := S184) (L' := S184) (As := [.int (nI 2), .int (nI 110), .int (nI 300)]) C hs hP hD hS (cs_wouldMove 2 (nI 110) (nI 300) (nI 0) (by decide +kernel)) k_X5_wouldMove kl_L_28 rfl hl rfl rfl (Nat.le_of_ble_eq_true rfl) ⟨⟨rfl, rfl⟩, Nat.le_of_ble_eq_true rfl, Nat.le_of_ble_eq_true rfl⟩ ⟨Nat.le_of_ble_eq_true rfl, Nat.le_of_ble_eq_true rfl⟩ dL_rounds_291 (fun g z H locs hs hP hD hS => ?_)
  refine lv_if_ne (tgt := 340) C.hx C.hb dL_rounds_294 (by decide) (fun c9 => absurd c9 (by decide +kernel)) (fun _ => ?_)
  refine lv_aload_n C.hx C.hb dL_rounds_297 rfl (lv_at hl 0 rfl) ?_
  refine lv_iconst (v := nI 0) C.hx C.hb dL_rounds_298 (by decide +kernel) ?_
  refine lv_iconst (v := nI 0) C.hx C.hb dL_rounds_299 (by decide +kernel) ?_
  refine q_cO (L := S184) (L' := S184) (As := [.int (nI 0), .int (nI 0)]) C hs hP hD hS (cs_careerAt 0 0 (-1) (by decide +kernel)) k_X5_careerAt kl_L_67 rfl hl rfl rfl (Nat.le_of_ble_eq_true rfl) ⟨⟨rfl, rfl⟩, Nat.le_of_ble_eq_true rfl, Nat.le_of_ble_eq_true rfl⟩ ⟨Nat.le_of_ble_eq_true rfl, Nat.le_of_ble_eq_true rfl⟩ dL_rounds_300 (fun g z H locs hs hP hD hS => ?_)
  refine lv_iconst (v := -1) C.hx C.hb dL_rounds_303 (by decide +kernel) ?_
  refine lv_icmp_ne (tgt := 340) C.hx C.hb dL_rounds_304 (by decide) (fun c9 => absurd c9 (by decide +kernel)) (fun _ => ?_)
  refine lv_aload_n C.hx C.hb dL_rounds_307 rfl (lv_at hl 0 rfl) ?_
  refine lv_iconst (v := nI 0) C.hx C.hb dL_rounds_308 (by decide +kernel) ?_
  refine q_cO (L := S184) (L' := S184) (As := [.int (nI 0)]) C hs hP hD hS (cs_breaches 0 0 (by decide +kernel)) k_X5_breaches kl_L_70 rfl hl rfl rfl (Nat.le_of_ble_eq_true rfl) ⟨⟨rfl, rfl⟩, Nat.le_of_ble_eq_true rfl, Nat.le_of_ble_eq_true rfl⟩ ⟨Nat.le_of_ble_eq_true rfl, Nat.le_of_ble_eq_true rfl⟩ dL_rounds_309 (fun g z H locs hs hP hD hS => ?_)
  refine lv_if_ne (tgt := 340) C.hx C.hb dL_rounds_312 (by decide) (fun c9 => absurd c9 (by decide +kernel)) (fun _ => ?_)
  refine lv_aload_n C.hx C.hb dL_rounds_315 rfl (lv_at hl 0 rfl) ?_
  refine lv_iconst (v := nI 0) C.hx C.hb dL_rounds_316 (by decide +kernel) ?_
  refine lv_iconst (v := nI 1) C.hx C.hb dL_rounds_317 (by decide +kernel) ?_
  refine lv_iconst (v := nI 3) C.hx C.hb dL_rounds_318 (by decide +kernel) ?_
  refine lv_iconst (v := nI 5) C.hx C.hb dL_rounds_319 (by decide +kernel) ?_
  refine q_cP (L := S184) (L' := S184) (r := nI 1) (c2 := 69) (s2 := 991) (As := [.int (nI 0), .int (nI 1), .int (nI 3), .int (nI 5)]) C hs hP hD hS (cs_Lweight C.htr 0 1 3 5 (by decide +kernel)) k_L_weight kl_L_115 hl rfl rfl (Nat.le_of_ble_eq_true rfl) ⟨Nat.le_of_ble_eq_true rfl, Nat.le_of_ble_eq_true rfl⟩ ⟨Nat.le_of_ble_eq_true rfl, Nat.le_of_ble_eq_true rfl⟩ ⟨Nat.le_of_ble_eq_true rfl, Nat.le_of_ble_eq_true rfl⟩ dL_rounds_320 (fun g z H locs hs hP hD hS => ?_)
  refine lv_if_eq (tgt := 340) C.hx C.hb dL_rounds_323 (by decide) (fun c9 => absurd c9 (by decide +kernel)) (fun _ => ?_)
  refine lv_aload_n C.hx C.hb dL_rounds_326 rfl (lv_at hl 0 rfl) ?_
  refine lv_bipush (v := nI 7) C.hx C.hb dL_rounds_327 (by decide +kernel) ?_
  refine lv_iconst (v := nI 0) C.hx C.hb dL_rounds_329 (by decide +kernel) ?_
  refine q_cP (L := S184) (L' := S184) (r := nI 1) (c2 := 69) (s2 := 991) (As := [.int (nI 7), .int (nI 0)]) C hs hP hD hS (cs_Lbest C.htr 7 0 (by decide +kernel)) k_L_best kl_L_113 hl rfl rfl (Nat.le_of_ble_eq_true rfl) ⟨Nat.le_of_ble_eq_true rfl, Nat.le_of_ble_eq_true rfl⟩ ⟨Nat.le_of_ble_eq_true rfl, Nat.le_of_ble_eq_true rfl⟩ ⟨Nat.le_of_ble_eq_true rfl, Nat.le_of_ble_eq_true rfl⟩ dL_rounds_330 (fun g z H locs hs hP hD hS => ?_)
  refine lv_if_eq (tgt := 340) C.hx C.hb dL_rounds_333 (by decide) (fun c9 => absurd c9 (by decide +kernel)) (fun _ => ?_)
  refine lv_iconst (v := nI 1) C.hx C.hb dL_rounds_336 (by decide +kernel) ?_
  refine lv_goto (tgt := 341) C.hx C.hb dL_rounds_337 (by decide) ?_
  exact q_lzret (w' := []) C.hx C.hb hr hlk (Or.inr rfl) rfl rfl (fun k q h => by simp at h) hS (Nat.le_of_ble_eq_true rfl) (Nat.le_of_ble_eq_true rfl) dL_rounds_341

set_option maxRecDepth 100000 in
theorem t_rounds {l : Launch} (htr : l.stackTraces = false) {D : va_G} {cA : ClassId} : q_CL l yL_rounds [Cond.code yL_rounds cL_rounds 1 (some .boolean)] rm_Lrounds D cA [] [] (nI 1) (fun w => w = []) := by
  refine q_startP RL (by decide +kernel) rfl (Nat.le_of_ble_eq_true rfl) ?_
  intro p e s m below meth c A args H locs ls hx hb hr hml hown hT hlk hP hK hD hA hS hl hX hN hZ
  have C : lcx p l s m c cL_rounds 1 D cA A := ⟨hx, hb, hml, hown, hT, hK, hA, hX, hN, hZ, htr⟩
  refine q_new (N := 16) (ci := 5) hx hb hT hown kw_X5 tyX5 tyX5_ok kx_L_8 kn_X5 ki_OfficeholdersRoll hK hP hD hS hA rfl [.null, .null, .null, .null, .null, .null, .null, .null, .null, .null, .null, .null, .null, .null, .null, .int 0] q_fs_X5 (Nat.le_of_ble_eq_true rfl) (Nat.le_of_ble_eq_true rfl) dL_rounds_0 (fun q5 H hP hD hS => ?_)
  refine lv_dup hx hb dL_rounds_3 rfl ?_
  refine q_callN (rest := [.ref q5]) (As := []) (mc := 65) (ms := 957) (wr := []) hx hb hml hown hT hX.1 hK hP hD hS hA (c_X5_init l D cA q5) k_X5_init kl_L_108 hl rfl rfl (Nat.le_of_ble_eq_true rfl) ⟨⟨rfl, rfl⟩, Nat.le_of_ble_eq_true rfl, Nat.le_of_ble_eq_true rfl⟩ ⟨Nat.le_of_ble_eq_true rfl, Nat.le_of_ble_eq_true rfl⟩ dL_rounds_4 (fun ad H locs hu hP hD hS => ?_)
  have hP : va_P D vwCl (rlW cA ad g5_0 (fun _ => 0)) H := hP
  have hD : va_D A (rlW cA ad g5_0 (fun _ => 0)) := hD
  refine lv_astore_n (lv' := [(0, .ref q5)]) hx hb dL_rounds_7 rfl hl (by decide) rfl (fun ls hl => ?_)
  have hl : lv_has ls 1 [(0, .ref (ad 70))] := by rw [hu]; exact hl
  refine W.widen (k := 66) (n := 973) (Nat.le_of_ble_eq_true rfl) (Nat.le_of_ble_eq_true rfl) ?_
  exact tr_rounds_0 C (tr_rounds_1 C (tr_rounds_end C hr hlk)) g5_0 (fun _ => 0) H locs ls isL_new hP hD hS hl

