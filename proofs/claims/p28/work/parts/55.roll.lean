abbrev rm_Lroll : Room := { frames := 12, cells := 6000, slots := 40000, locals := 300 }
set_option maxRecDepth 100000 in
set_option maxHeartbeats 4000000 in
theorem tr_roll_0 {p : Program} {l : Launch} {e : Env} {s : State} {m : MethodId} {args : Array Value} {below : List Frame} {meth : Method} {c : Code} {D : va_G} {cA : ClassId} {A : Nat → Prop} {ad : Nat → Nat} {Q : State → Prop} (C : lcx p l s m c cL_roll 1 D cA A) (kk : ∀ (g : Nat → Nat → Int32) (z : Nat → Nat) (H : Heap) (locs : List Loc) (ls : Array Slot), isL S5 g z → va_P D vwCl (rlW cA ad g z) H → va_D A (rlW cA ad g z) → va_S A s.heap H locs → lv_has ls 1 [(0, .ref (ad 70))] → W p l e rm_Lroll s m args below meth c H locs 1566 9973 Q (F0 m 110 ls [])) : ∀ (g : Nat → Nat → Int32) (z : Nat → Nat) (H : Heap) (locs : List Loc) (ls : Array Slot), isL S0 g z → va_P D vwCl (rlW cA ad g z) H → va_D A (rlW cA ad g z) → va_S A s.heap H locs → lv_has ls 1 [(0, .ref (ad 70))] → W p l e rm_Lroll s m args below meth c H locs 66 973 Q (F0 m 8 ls []) := by
  intro g z H locs ls hs hP hD hS hl
  refine lv_aload_n C.hx C.hb dL_roll_8 rfl (lv_at hl 0 rfl) ?_
  refine lv_iconst (v := nI 0) C.hx C.hb dL_roll_9 (by decide +kernel) ?_
  refine lv_iconst (v := nI 0) C.hx C.hb dL_roll_10 (by decide +kernel) ?_
  refine q_cP (L := S0) (L' := S0) (r := nI 1) (c2 := 566) (s2 := 3973) (As := [.int (nI 0), .int (nI 0)]) C hs hP hD hS (cs_Lrefuses C.htr 0 0 (by decide +kernel)) k_L_refuses kl_L_109 hl rfl rfl (Nat.le_of_ble_eq_true rfl) ⟨Nat.le_of_ble_eq_true rfl, Nat.le_of_ble_eq_true rfl⟩ ⟨Nat.le_of_ble_eq_true rfl, Nat.le_of_ble_eq_true rfl⟩ ⟨Nat.le_of_ble_eq_true rfl, Nat.le_of_ble_eq_true rfl⟩ dL_roll_11 (fun g z H locs hs hP hD hS => ?_)
  refine lv_if_eq (tgt := 336) C.hx C.hb dL_roll_14 (by decide) (fun c9 => absurd c9 (by decide +kernel)) (fun _ => ?_)
  refine lv_aload_n C.hx C.hb dL_roll_17 rfl (lv_at hl 0 rfl) ?_
  refine q_cO (L := S0) (L' := S0) (As := []) C hs hP hD hS (cs_differ 0 (by decide +kernel)) k_X5_differ kl_L_98 rfl hl rfl rfl (Nat.le_of_ble_eq_true rfl) ⟨⟨rfl, rfl⟩, Nat.le_of_ble_eq_true rfl, Nat.le_of_ble_eq_true rfl⟩ ⟨Nat.le_of_ble_eq_true rfl, Nat.le_of_ble_eq_true rfl⟩ dL_roll_18 (fun g z H locs hs hP hD hS => ?_)
  refine lv_if_ne (tgt := 336) C.hx C.hb dL_roll_21 (by decide) (fun c9 => absurd c9 (by decide +kernel)) (fun _ => ?_)
  refine lv_aload_n C.hx C.hb dL_roll_24 rfl (lv_at hl 0 rfl) ?_
  refine lv_iconst (v := nI 0) C.hx C.hb dL_roll_25 (by decide +kernel) ?_
  refine lv_iconst (v := nI 0) C.hx C.hb dL_roll_26 (by decide +kernel) ?_
  refine q_cP (L := S0) (L' := S0) (r := nI 1) (c2 := 566) (s2 := 3973) (As := [.int (nI 0), .int (nI 0)]) C hs hP hD hS (cs_Lbest C.htr 0 0 (by decide +kernel)) k_L_best kl_L_113 hl rfl rfl (Nat.le_of_ble_eq_true rfl) ⟨Nat.le_of_ble_eq_true rfl, Nat.le_of_ble_eq_true rfl⟩ ⟨Nat.le_of_ble_eq_true rfl, Nat.le_of_ble_eq_true rfl⟩ ⟨Nat.le_of_ble_eq_true rfl, Nat.le_of_ble_eq_true rfl⟩ dL_roll_27 (fun g z H locs hs hP hD hS => ?_)
  refine lv_if_eq (tgt := 336) C.hx C.hb dL_roll_30 (by decide) (fun c9 => absurd c9 (by decide +kernel)) (fun _ => ?_)
  refine lv_aload_n C.hx C.hb dL_roll_33 rfl (lv_at hl 0 rfl) ?_
  refine lv_iconst (v := nI 3) C.hx C.hb dL_roll_34 (by decide +kernel) ?_
  refine lv_iconst (v := nI 2) C.hx C.hb dL_roll_35 (by decide +kernel) ?_
  refine lv_iconst (v := nI 1) C.hx C.hb dL_roll_36 (by decide +kernel) ?_
  refine lv_iconst (v := nI 0) C.hx C.hb dL_roll_37 (by decide +kernel) ?_
  refine q_cO (L := S0) (L' := S1) (As := [.int (nI 3), .int (nI 2), .int (nI 1), .int (nI 0)]) C hs hP hD hS (cs_mention S1 (nI 3) (nI 2) (nI 1) (nI 0) (Or.inr (q_r_nI (by decide))) 0 (by decide +kernel)) k_X5_mention kl_L_7 rfl hl rfl rfl (Nat.le_of_ble_eq_true rfl) ⟨⟨rfl, rfl⟩, Nat.le_of_ble_eq_true rfl, Nat.le_of_ble_eq_true rfl⟩ ⟨Nat.le_of_ble_eq_true rfl, Nat.le_of_ble_eq_true rfl⟩ dL_roll_38 (fun g z H locs hs hP hD hS => ?_)
  refine lv_if_ne (tgt := 336) C.hx C.hb dL_roll_41 (by decide) (fun c9 => absurd c9 (by decide +kernel)) (fun _ => ?_)
  refine lv_aload_n C.hx C.hb dL_roll_44 rfl (lv_at hl 0 rfl) ?_
  refine lv_iconst (v := nI 1) C.hx C.hb dL_roll_45 (by decide +kernel) ?_
  refine lv_iconst (v := nI 1) C.hx C.hb dL_roll_46 (by decide +kernel) ?_
  refine q_cP (L := S1) (L' := S1) (r := nI 1) (c2 := 1066) (s2 := 6973) (As := [.int (nI 1), .int (nI 1)]) C hs hP hD hS (cs_Lrefuses C.htr 1 1 (by decide +kernel)) k_L_refuses kl_L_109 hl rfl rfl (Nat.le_of_ble_eq_true rfl) ⟨Nat.le_of_ble_eq_true rfl, Nat.le_of_ble_eq_true rfl⟩ ⟨Nat.le_of_ble_eq_true rfl, Nat.le_of_ble_eq_true rfl⟩ ⟨Nat.le_of_ble_eq_true rfl, Nat.le_of_ble_eq_true rfl⟩ dL_roll_47 (fun g z H locs hs hP hD hS => ?_)
  refine lv_if_eq (tgt := 336) C.hx C.hb dL_roll_50 (by decide) (fun c9 => absurd c9 (by decide +kernel)) (fun _ => ?_)
  refine lv_aload_n C.hx C.hb dL_roll_53 rfl (lv_at hl 0 rfl) ?_
  refine lv_iconst (v := nI 3) C.hx C.hb dL_roll_54 (by decide +kernel) ?_
  refine lv_iconst (v := -1) C.hx C.hb dL_roll_55 (by decide +kernel) ?_
  refine lv_iconst (v := nI 1) C.hx C.hb dL_roll_56 (by decide +kernel) ?_
  refine lv_iconst (v := nI 1) C.hx C.hb dL_roll_57 (by decide +kernel) ?_
  refine q_cO (L := S1) (L' := S2) (As := [.int (nI 3), .int (-1), .int (nI 1), .int (nI 1)]) C hs hP hD hS (cs_mention S2 (nI 3) (-1) (nI 1) (nI 1) (Or.inr (q_r_nI (by decide))) 1 (by decide +kernel)) k_X5_mention kl_L_7 rfl hl rfl rfl (Nat.le_of_ble_eq_true rfl) ⟨⟨rfl, rfl⟩, Nat.le_of_ble_eq_true rfl, Nat.le_of_ble_eq_true rfl⟩ ⟨Nat.le_of_ble_eq_true rfl, Nat.le_of_ble_eq_true rfl⟩ dL_roll_58 (fun g z H locs hs hP hD hS => ?_)
  refine lv_iconst (v := nI 1) C.hx C.hb dL_roll_61 (by decide +kernel) ?_
  refine lv_icmp_ne (tgt := 336) C.hx C.hb dL_roll_62 (by decide) (fun c9 => absurd c9 (by decide +kernel)) (fun _ => ?_)
  refine lv_aload_n C.hx C.hb dL_roll_65 rfl (lv_at hl 0 rfl) ?_
  refine lv_iconst (v := nI 3) C.hx C.hb dL_roll_66 (by decide +kernel) ?_
  refine lv_iconst (v := nI 2) C.hx C.hb dL_roll_67 (by decide +kernel) ?_
  refine lv_iconst (v := nI 4) C.hx C.hb dL_roll_68 (by decide +kernel) ?_
  refine lv_iconst (v := nI 0) C.hx C.hb dL_roll_69 (by decide +kernel) ?_
  refine q_cO (L := S2) (L' := S3) (As := [.int (nI 3), .int (nI 2), .int (nI 4), .int (nI 0)]) C hs hP hD hS (cs_mention S3 (nI 3) (nI 2) (nI 4) (nI 0) (Or.inr (q_r_nI (by decide))) 2 (by decide +kernel)) k_X5_mention kl_L_7 rfl hl rfl rfl (Nat.le_of_ble_eq_true rfl) ⟨⟨rfl, rfl⟩, Nat.le_of_ble_eq_true rfl, Nat.le_of_ble_eq_true rfl⟩ ⟨Nat.le_of_ble_eq_true rfl, Nat.le_of_ble_eq_true rfl⟩ dL_roll_70 (fun g z H locs hs hP hD hS => ?_)
  refine lv_iconst (v := nI 2) C.hx C.hb dL_roll_73 (by decide +kernel) ?_
  refine lv_icmp_ne (tgt := 336) C.hx C.hb dL_roll_74 (by decide) (fun c9 => absurd c9 (by decide +kernel)) (fun _ => ?_)
  refine lv_aload_n C.hx C.hb dL_roll_77 rfl (lv_at hl 0 rfl) ?_
  refine lv_iconst (v := nI 5) C.hx C.hb dL_roll_78 (by decide +kernel) ?_
  refine lv_iconst (v := nI 4) C.hx C.hb dL_roll_79 (by decide +kernel) ?_
  refine lv_iconst (v := nI 1) C.hx C.hb dL_roll_80 (by decide +kernel) ?_
  refine lv_iconst (v := -1) C.hx C.hb dL_roll_81 (by decide +kernel) ?_
  refine q_cO (L := S3) (L' := S4) (As := [.int (nI 5), .int (nI 4), .int (nI 1), .int (-1)]) C hs hP hD hS (cs_mention S4 (nI 5) (nI 4) (nI 1) (-1) (Or.inl rfl) 3 (by decide +kernel)) k_X5_mention kl_L_7 rfl hl rfl rfl (Nat.le_of_ble_eq_true rfl) ⟨⟨rfl, rfl⟩, Nat.le_of_ble_eq_true rfl, Nat.le_of_ble_eq_true rfl⟩ ⟨Nat.le_of_ble_eq_true rfl, Nat.le_of_ble_eq_true rfl⟩ dL_roll_82 (fun g z H locs hs hP hD hS => ?_)
  refine lv_iconst (v := nI 3) C.hx C.hb dL_roll_85 (by decide +kernel) ?_
  refine lv_icmp_ne (tgt := 336) C.hx C.hb dL_roll_86 (by decide) (fun c9 => absurd c9 (by decide +kernel)) (fun _ => ?_)
  refine lv_aload_n C.hx C.hb dL_roll_89 rfl (lv_at hl 0 rfl) ?_
  refine lv_iconst (v := nI 5) C.hx C.hb dL_roll_90 (by decide +kernel) ?_
  refine lv_iconst (v := nI 4) C.hx C.hb dL_roll_91 (by decide +kernel) ?_
  refine lv_iconst (v := nI 2) C.hx C.hb dL_roll_92 (by decide +kernel) ?_
  refine lv_iconst (v := nI 3) C.hx C.hb dL_roll_93 (by decide +kernel) ?_
  refine q_cO (L := S4) (L' := S5) (As := [.int (nI 5), .int (nI 4), .int (nI 2), .int (nI 3)]) C hs hP hD hS (cs_mention S5 (nI 5) (nI 4) (nI 2) (nI 3) (Or.inr (q_r_nI (by decide))) 4 (by decide +kernel)) k_X5_mention kl_L_7 rfl hl rfl rfl (Nat.le_of_ble_eq_true rfl) ⟨⟨rfl, rfl⟩, Nat.le_of_ble_eq_true rfl, Nat.le_of_ble_eq_true rfl⟩ ⟨Nat.le_of_ble_eq_true rfl, Nat.le_of_ble_eq_true rfl⟩ dL_roll_94 (fun g z H locs hs hP hD hS => ?_)
  refine lv_iconst (v := nI 4) C.hx C.hb dL_roll_97 (by decide +kernel) ?_
  refine lv_icmp_ne (tgt := 336) C.hx C.hb dL_roll_98 (by decide) (fun c9 => absurd c9 (by decide +kernel)) (fun _ => ?_)
  refine lv_aload_n C.hx C.hb dL_roll_101 rfl (lv_at hl 0 rfl) ?_
  refine lv_iconst (v := nI 5) C.hx C.hb dL_roll_102 (by decide +kernel) ?_
  refine lv_iconst (v := nI 5) C.hx C.hb dL_roll_103 (by decide +kernel) ?_
  refine q_cP (L := S5) (L' := S5) (r := nI 1) (c2 := 1566) (s2 := 9973) (As := [.int (nI 5), .int (nI 5)]) C hs hP hD hS (cs_Lrefuses C.htr 5 5 (by decide +kernel)) k_L_refuses kl_L_109 hl rfl rfl (Nat.le_of_ble_eq_true rfl) ⟨Nat.le_of_ble_eq_true rfl, Nat.le_of_ble_eq_true rfl⟩ ⟨Nat.le_of_ble_eq_true rfl, Nat.le_of_ble_eq_true rfl⟩ ⟨Nat.le_of_ble_eq_true rfl, Nat.le_of_ble_eq_true rfl⟩ dL_roll_104 (fun g z H locs hs hP hD hS => ?_)
  refine lv_if_eq (tgt := 336) C.hx C.hb dL_roll_107 (by decide) (fun c9 => absurd c9 (by decide +kernel)) (fun _ => ?_)
  exact kk g z H locs ls hs hP hD hS hl

set_option maxRecDepth 100000 in
set_option maxHeartbeats 4000000 in
theorem tr_roll_1 {p : Program} {l : Launch} {e : Env} {s : State} {m : MethodId} {args : Array Value} {below : List Frame} {meth : Method} {c : Code} {D : va_G} {cA : ClassId} {A : Nat → Prop} {ad : Nat → Nat} {Q : State → Prop} (C : lcx p l s m c cL_roll 1 D cA A) (kk : ∀ (g : Nat → Nat → Int32) (z : Nat → Nat) (H : Heap) (locs : List Loc) (ls : Array Slot), isL S6 g z → va_P D vwCl (rlW cA ad g z) H → va_D A (rlW cA ad g z) → va_S A s.heap H locs → lv_has ls 1 [(0, .ref (ad 70))] → W p l e rm_Lroll s m args below meth c H locs 1567 9979 Q (F0 m 212 ls [])) : ∀ (g : Nat → Nat → Int32) (z : Nat → Nat) (H : Heap) (locs : List Loc) (ls : Array Slot), isL S5 g z → va_P D vwCl (rlW cA ad g z) H → va_D A (rlW cA ad g z) → va_S A s.heap H locs → lv_has ls 1 [(0, .ref (ad 70))] → W p l e rm_Lroll s m args below meth c H locs 1566 9973 Q (F0 m 110 ls []) := by
  intro g z H locs ls hs hP hD hS hl
  refine lv_aload_n C.hx C.hb dL_roll_110 rfl (lv_at hl 0 rfl) ?_
  refine lv_iconst (v := nI 0) C.hx C.hb dL_roll_111 (by decide +kernel) ?_
  refine lv_iconst (v := nI 1) C.hx C.hb dL_roll_112 (by decide +kernel) ?_
  refine lv_iconst (v := nI 3) C.hx C.hb dL_roll_113 (by decide +kernel) ?_
  refine lv_iconst (v := nI 5) C.hx C.hb dL_roll_114 (by decide +kernel) ?_
  refine q_cP (L := S5) (L' := S5) (r := nI 1) (c2 := 1566) (s2 := 9973) (As := [.int (nI 0), .int (nI 1), .int (nI 3), .int (nI 5)]) C hs hP hD hS (cs_Lweight C.htr 0 1 3 5 (by decide +kernel)) k_L_weight kl_L_115 hl rfl rfl (Nat.le_of_ble_eq_true rfl) ⟨Nat.le_of_ble_eq_true rfl, Nat.le_of_ble_eq_true rfl⟩ ⟨Nat.le_of_ble_eq_true rfl, Nat.le_of_ble_eq_true rfl⟩ ⟨Nat.le_of_ble_eq_true rfl, Nat.le_of_ble_eq_true rfl⟩ dL_roll_115 (fun g z H locs hs hP hD hS => ?_)
  refine lv_if_eq (tgt := 336) C.hx C.hb dL_roll_118 (by decide) (fun c9 => absurd c9 (by decide +kernel)) (fun _ => ?_)
  refine lv_aload_n C.hx C.hb dL_roll_121 rfl (lv_at hl 0 rfl) ?_
  refine lv_iconst (v := nI 0) C.hx C.hb dL_roll_122 (by decide +kernel) ?_
  refine lv_iconst (v := nI 2) C.hx C.hb dL_roll_123 (by decide +kernel) ?_
  refine lv_bipush (v := nI 7) C.hx C.hb dL_roll_124 (by decide +kernel) ?_
  refine lv_iconst (v := nI 0) C.hx C.hb dL_roll_126 (by decide +kernel) ?_
  refine q_cP (L := S5) (L' := S5) (r := nI 1) (c2 := 1566) (s2 := 9973) (As := [.int (nI 0), .int (nI 2), .int (nI 7), .int (nI 0)]) C hs hP hD hS (cs_Lweight C.htr 0 2 7 0 (by decide +kernel)) k_L_weight kl_L_115 hl rfl rfl (Nat.le_of_ble_eq_true rfl) ⟨Nat.le_of_ble_eq_true rfl, Nat.le_of_ble_eq_true rfl⟩ ⟨Nat.le_of_ble_eq_true rfl, Nat.le_of_ble_eq_true rfl⟩ ⟨Nat.le_of_ble_eq_true rfl, Nat.le_of_ble_eq_true rfl⟩ dL_roll_127 (fun g z H locs hs hP hD hS => ?_)
  refine lv_if_eq (tgt := 336) C.hx C.hb dL_roll_130 (by decide) (fun c9 => absurd c9 (by decide +kernel)) (fun _ => ?_)
  refine lv_aload_n C.hx C.hb dL_roll_133 rfl (lv_at hl 0 rfl) ?_
  refine lv_iconst (v := nI 1) C.hx C.hb dL_roll_134 (by decide +kernel) ?_
  refine lv_iconst (v := nI 2) C.hx C.hb dL_roll_135 (by decide +kernel) ?_
  refine lv_iconst (v := nI 2) C.hx C.hb dL_roll_136 (by decide +kernel) ?_
  refine lv_iconst (v := nI 5) C.hx C.hb dL_roll_137 (by decide +kernel) ?_
  refine q_cP (L := S5) (L' := S5) (r := nI 1) (c2 := 1566) (s2 := 9973) (As := [.int (nI 1), .int (nI 2), .int (nI 2), .int (nI 5)]) C hs hP hD hS (cs_Lweight C.htr 1 2 2 5 (by decide +kernel)) k_L_weight kl_L_115 hl rfl rfl (Nat.le_of_ble_eq_true rfl) ⟨Nat.le_of_ble_eq_true rfl, Nat.le_of_ble_eq_true rfl⟩ ⟨Nat.le_of_ble_eq_true rfl, Nat.le_of_ble_eq_true rfl⟩ ⟨Nat.le_of_ble_eq_true rfl, Nat.le_of_ble_eq_true rfl⟩ dL_roll_138 (fun g z H locs hs hP hD hS => ?_)
  refine lv_if_eq (tgt := 336) C.hx C.hb dL_roll_141 (by decide) (fun c9 => absurd c9 (by decide +kernel)) (fun _ => ?_)
  refine lv_aload_n C.hx C.hb dL_roll_144 rfl (lv_at hl 0 rfl) ?_
  refine lv_iconst (v := nI 0) C.hx C.hb dL_roll_145 (by decide +kernel) ?_
  refine lv_iconst (v := nI 3) C.hx C.hb dL_roll_146 (by decide +kernel) ?_
  refine lv_iconst (v := nI 1) C.hx C.hb dL_roll_147 (by decide +kernel) ?_
  refine lv_iconst (v := nI 3) C.hx C.hb dL_roll_148 (by decide +kernel) ?_
  refine q_cP (L := S5) (L' := S5) (r := nI 1) (c2 := 1566) (s2 := 9973) (As := [.int (nI 0), .int (nI 3), .int (nI 1), .int (nI 3)]) C hs hP hD hS (cs_Lweight C.htr 0 3 1 3 (by decide +kernel)) k_L_weight kl_L_115 hl rfl rfl (Nat.le_of_ble_eq_true rfl) ⟨Nat.le_of_ble_eq_true rfl, Nat.le_of_ble_eq_true rfl⟩ ⟨Nat.le_of_ble_eq_true rfl, Nat.le_of_ble_eq_true rfl⟩ ⟨Nat.le_of_ble_eq_true rfl, Nat.le_of_ble_eq_true rfl⟩ dL_roll_149 (fun g z H locs hs hP hD hS => ?_)
  refine lv_if_eq (tgt := 336) C.hx C.hb dL_roll_152 (by decide) (fun c9 => absurd c9 (by decide +kernel)) (fun _ => ?_)
  refine lv_aload_n C.hx C.hb dL_roll_155 rfl (lv_at hl 0 rfl) ?_
  refine lv_iconst (v := nI 3) C.hx C.hb dL_roll_156 (by decide +kernel) ?_
  refine lv_iconst (v := nI 4) C.hx C.hb dL_roll_157 (by decide +kernel) ?_
  refine lv_iconst (v := nI 5) C.hx C.hb dL_roll_158 (by decide +kernel) ?_
  refine lv_iconst (v := nI 0) C.hx C.hb dL_roll_159 (by decide +kernel) ?_
  refine q_cP (L := S5) (L' := S5) (r := nI 1) (c2 := 1566) (s2 := 9973) (As := [.int (nI 3), .int (nI 4), .int (nI 5), .int (nI 0)]) C hs hP hD hS (cs_Lweight C.htr 3 4 5 0 (by decide +kernel)) k_L_weight kl_L_115 hl rfl rfl (Nat.le_of_ble_eq_true rfl) ⟨Nat.le_of_ble_eq_true rfl, Nat.le_of_ble_eq_true rfl⟩ ⟨Nat.le_of_ble_eq_true rfl, Nat.le_of_ble_eq_true rfl⟩ ⟨Nat.le_of_ble_eq_true rfl, Nat.le_of_ble_eq_true rfl⟩ dL_roll_160 (fun g z H locs hs hP hD hS => ?_)
  refine lv_if_eq (tgt := 336) C.hx C.hb dL_roll_163 (by decide) (fun c9 => absurd c9 (by decide +kernel)) (fun _ => ?_)
  refine lv_aload_n C.hx C.hb dL_roll_166 rfl (lv_at hl 0 rfl) ?_
  refine lv_iconst (v := nI 1) C.hx C.hb dL_roll_167 (by decide +kernel) ?_
  refine lv_iconst (v := nI 3) C.hx C.hb dL_roll_168 (by decide +kernel) ?_
  refine lv_iconst (v := nI 1) C.hx C.hb dL_roll_169 (by decide +kernel) ?_
  refine lv_iconst (v := nI 5) C.hx C.hb dL_roll_170 (by decide +kernel) ?_
  refine q_cP (L := S5) (L' := S5) (r := nI 1) (c2 := 1566) (s2 := 9973) (As := [.int (nI 1), .int (nI 3), .int (nI 1), .int (nI 5)]) C hs hP hD hS (cs_Lweight C.htr 1 3 1 5 (by decide +kernel)) k_L_weight kl_L_115 hl rfl rfl (Nat.le_of_ble_eq_true rfl) ⟨Nat.le_of_ble_eq_true rfl, Nat.le_of_ble_eq_true rfl⟩ ⟨Nat.le_of_ble_eq_true rfl, Nat.le_of_ble_eq_true rfl⟩ ⟨Nat.le_of_ble_eq_true rfl, Nat.le_of_ble_eq_true rfl⟩ dL_roll_171 (fun g z H locs hs hP hD hS => ?_)
  refine lv_if_eq (tgt := 336) C.hx C.hb dL_roll_174 (by decide) (fun c9 => absurd c9 (by decide +kernel)) (fun _ => ?_)
  refine lv_aload_n C.hx C.hb dL_roll_177 rfl (lv_at hl 0 rfl) ?_
  refine lv_iconst (v := nI 1) C.hx C.hb dL_roll_178 (by decide +kernel) ?_
  refine lv_iconst (v := nI 4) C.hx C.hb dL_roll_179 (by decide +kernel) ?_
  refine lv_iconst (v := nI 0) C.hx C.hb dL_roll_180 (by decide +kernel) ?_
  refine lv_iconst (v := nI 5) C.hx C.hb dL_roll_181 (by decide +kernel) ?_
  refine q_cP (L := S5) (L' := S5) (r := nI 1) (c2 := 1566) (s2 := 9973) (As := [.int (nI 1), .int (nI 4), .int (nI 0), .int (nI 5)]) C hs hP hD hS (cs_Lweight C.htr 1 4 0 5 (by decide +kernel)) k_L_weight kl_L_115 hl rfl rfl (Nat.le_of_ble_eq_true rfl) ⟨Nat.le_of_ble_eq_true rfl, Nat.le_of_ble_eq_true rfl⟩ ⟨Nat.le_of_ble_eq_true rfl, Nat.le_of_ble_eq_true rfl⟩ ⟨Nat.le_of_ble_eq_true rfl, Nat.le_of_ble_eq_true rfl⟩ dL_roll_182 (fun g z H locs hs hP hD hS => ?_)
  refine lv_if_eq (tgt := 336) C.hx C.hb dL_roll_185 (by decide) (fun c9 => absurd c9 (by decide +kernel)) (fun _ => ?_)
  refine lv_aload_n C.hx C.hb dL_roll_188 rfl (lv_at hl 0 rfl) ?_
  refine lv_bipush (v := nI 12) C.hx C.hb dL_roll_189 (by decide +kernel) ?_
  refine lv_iconst (v := nI 0) C.hx C.hb dL_roll_191 (by decide +kernel) ?_
  refine lv_iconst (v := nI 1) C.hx C.hb dL_roll_192 (by decide +kernel) ?_
  refine lv_iconst (v := nI 0) C.hx C.hb dL_roll_193 (by decide +kernel) ?_
  refine lv_iconst (v := nI 0) C.hx C.hb dL_roll_194 (by decide +kernel) ?_
  refine q_cA (L := S5) (L' := S5) (r := -7000003) (c2 := 1567) (s2 := 9979) (As := [.int (nI 12), .int (nI 0), .int (nI 1), .int (nI 0), .int (nI 0)]) C hs hP hD hS (cx_join C.htr 0 1 (nI 0) (nI 0) (by decide +kernel)) kl_L_102 hl rfl rfl (Nat.le_of_ble_eq_true rfl) ⟨Nat.le_of_ble_eq_true rfl, Nat.le_of_ble_eq_true rfl⟩ ⟨Nat.le_of_ble_eq_true rfl, Nat.le_of_ble_eq_true rfl⟩ ⟨Nat.le_of_ble_eq_true rfl, Nat.le_of_ble_eq_true rfl⟩ dL_roll_195 (fun g z H locs hs hP hD hS => ?_)
  refine lv_ldc (v := -7000003) C.hx C.hb C.hown (C.hT.use kk_L_96 args) dL_roll_198 ?_
  refine lv_icmp_ne (tgt := 336) C.hx C.hb dL_roll_200 (by decide) (fun c9 => absurd c9 (by decide +kernel)) (fun _ => ?_)
  refine lv_aload_n C.hx C.hb dL_roll_203 rfl (lv_at hl 0 rfl) ?_
  refine lv_iconst (v := nI 0) C.hx C.hb dL_roll_204 (by decide +kernel) ?_
  refine lv_iconst (v := nI 1) C.hx C.hb dL_roll_205 (by decide +kernel) ?_
  refine q_cO (L := S5) (L' := S6) (As := [.int (nI 0), .int (nI 1)]) C hs hP hD hS (cs_seal S6 0 1 false (by decide +kernel)) k_X5_seal kl_L_38 rfl hl rfl rfl (Nat.le_of_ble_eq_true rfl) ⟨⟨rfl, rfl⟩, Nat.le_of_ble_eq_true rfl, Nat.le_of_ble_eq_true rfl⟩ ⟨Nat.le_of_ble_eq_true rfl, Nat.le_of_ble_eq_true rfl⟩ dL_roll_206 (fun g z H locs hs hP hD hS => ?_)
  refine lv_if_ne (tgt := 336) C.hx C.hb dL_roll_209 (by decide) (fun c9 => absurd c9 (by decide +kernel)) (fun _ => ?_)
  exact kk g z H locs ls hs hP hD hS hl

set_option maxRecDepth 100000 in
set_option maxHeartbeats 4000000 in
theorem tr_roll_2 {p : Program} {l : Launch} {e : Env} {s : State} {m : MethodId} {args : Array Value} {below : List Frame} {meth : Method} {c : Code} {D : va_G} {cA : ClassId} {A : Nat → Prop} {ad : Nat → Nat} {Q : State → Prop} (C : lcx p l s m c cL_roll 1 D cA A) (kk : ∀ (g : Nat → Nat → Int32) (z : Nat → Nat) (H : Heap) (locs : List Loc) (ls : Array Slot), isL S8 g z → va_P D vwCl (rlW cA ad g z) H → va_D A (rlW cA ad g z) → va_S A s.heap H locs → lv_has ls 1 [(0, .ref (ad 70))] → W p l e rm_Lroll s m args below meth c H locs 1567 9979 Q (F0 m 321 ls [])) : ∀ (g : Nat → Nat → Int32) (z : Nat → Nat) (H : Heap) (locs : List Loc) (ls : Array Slot), isL S6 g z → va_P D vwCl (rlW cA ad g z) H → va_D A (rlW cA ad g z) → va_S A s.heap H locs → lv_has ls 1 [(0, .ref (ad 70))] → W p l e rm_Lroll s m args below meth c H locs 1567 9979 Q (F0 m 212 ls []) := by
  intro g z H locs ls hs hP hD hS hl
  refine lv_aload_n C.hx C.hb dL_roll_212 rfl (lv_at hl 0 rfl) ?_
  refine lv_iconst (v := nI 1) C.hx C.hb dL_roll_213 (by decide +kernel) ?_
  refine lv_iconst (v := nI 0) C.hx C.hb dL_roll_214 (by decide +kernel) ?_
  refine q_cO (L := S6) (L' := S6) (As := [.int (nI 1), .int (nI 0)]) C hs hP hD hS (cs_seal S6 1 0 true (by decide +kernel)) k_X5_seal kl_L_38 rfl hl rfl rfl (Nat.le_of_ble_eq_true rfl) ⟨⟨rfl, rfl⟩, Nat.le_of_ble_eq_true rfl, Nat.le_of_ble_eq_true rfl⟩ ⟨Nat.le_of_ble_eq_true rfl, Nat.le_of_ble_eq_true rfl⟩ dL_roll_215 (fun g z H locs hs hP hD hS => ?_)
  refine lv_if_eq (tgt := 336) C.hx C.hb dL_roll_218 (by decide) (fun c9 => absurd c9 (by decide +kernel)) (fun _ => ?_)
  refine lv_aload_n C.hx C.hb dL_roll_221 rfl (lv_at hl 0 rfl) ?_
  refine lv_iconst (v := nI 0) C.hx C.hb dL_roll_222 (by decide +kernel) ?_
  refine lv_iconst (v := nI 1) C.hx C.hb dL_roll_223 (by decide +kernel) ?_
  refine lv_bipush (v := nI 8) C.hx C.hb dL_roll_224 (by decide +kernel) ?_
  refine lv_iconst (v := nI 0) C.hx C.hb dL_roll_226 (by decide +kernel) ?_
  refine q_cP (L := S6) (L' := S6) (r := nI 1) (c2 := 1567) (s2 := 9979) (As := [.int (nI 0), .int (nI 1), .int (nI 8), .int (nI 0)]) C hs hP hD hS (cs_Lweight C.htr 0 1 8 0 (by decide +kernel)) k_L_weight kl_L_115 hl rfl rfl (Nat.le_of_ble_eq_true rfl) ⟨Nat.le_of_ble_eq_true rfl, Nat.le_of_ble_eq_true rfl⟩ ⟨Nat.le_of_ble_eq_true rfl, Nat.le_of_ble_eq_true rfl⟩ ⟨Nat.le_of_ble_eq_true rfl, Nat.le_of_ble_eq_true rfl⟩ dL_roll_227 (fun g z H locs hs hP hD hS => ?_)
  refine lv_if_eq (tgt := 336) C.hx C.hb dL_roll_230 (by decide) (fun c9 => absurd c9 (by decide +kernel)) (fun _ => ?_)
  refine lv_aload_n C.hx C.hb dL_roll_233 rfl (lv_at hl 0 rfl) ?_
  refine lv_iconst (v := nI 3) C.hx C.hb dL_roll_234 (by decide +kernel) ?_
  refine lv_iconst (v := nI 1) C.hx C.hb dL_roll_235 (by decide +kernel) ?_
  refine q_cO (L := S6) (L' := S7) (As := [.int (nI 3), .int (nI 1)]) C hs hP hD hS (cs_seal S7 3 1 false (by decide +kernel)) k_X5_seal kl_L_38 rfl hl rfl rfl (Nat.le_of_ble_eq_true rfl) ⟨⟨rfl, rfl⟩, Nat.le_of_ble_eq_true rfl, Nat.le_of_ble_eq_true rfl⟩ ⟨Nat.le_of_ble_eq_true rfl, Nat.le_of_ble_eq_true rfl⟩ dL_roll_236 (fun g z H locs hs hP hD hS => ?_)
  refine lv_if_ne (tgt := 336) C.hx C.hb dL_roll_239 (by decide) (fun c9 => absurd c9 (by decide +kernel)) (fun _ => ?_)
  refine lv_aload_n C.hx C.hb dL_roll_242 rfl (lv_at hl 0 rfl) ?_
  refine lv_iconst (v := nI 1) C.hx C.hb dL_roll_243 (by decide +kernel) ?_
  refine lv_iconst (v := nI 3) C.hx C.hb dL_roll_244 (by decide +kernel) ?_
  refine lv_bipush (v := nI 6) C.hx C.hb dL_roll_245 (by decide +kernel) ?_
  refine lv_iconst (v := nI 0) C.hx C.hb dL_roll_247 (by decide +kernel) ?_
  refine q_cP (L := S7) (L' := S7) (r := nI 1) (c2 := 1567) (s2 := 9979) (As := [.int (nI 1), .int (nI 3), .int (nI 6), .int (nI 0)]) C hs hP hD hS (cs_Lweight C.htr 1 3 6 0 (by decide +kernel)) k_L_weight kl_L_115 hl rfl rfl (Nat.le_of_ble_eq_true rfl) ⟨Nat.le_of_ble_eq_true rfl, Nat.le_of_ble_eq_true rfl⟩ ⟨Nat.le_of_ble_eq_true rfl, Nat.le_of_ble_eq_true rfl⟩ ⟨Nat.le_of_ble_eq_true rfl, Nat.le_of_ble_eq_true rfl⟩ dL_roll_248 (fun g z H locs hs hP hD hS => ?_)
  refine lv_if_eq (tgt := 336) C.hx C.hb dL_roll_251 (by decide) (fun c9 => absurd c9 (by decide +kernel)) (fun _ => ?_)
  refine lv_aload_n C.hx C.hb dL_roll_254 rfl (lv_at hl 0 rfl) ?_
  refine lv_iconst (v := nI 0) C.hx C.hb dL_roll_255 (by decide +kernel) ?_
  refine lv_iconst (v := nI 1) C.hx C.hb dL_roll_256 (by decide +kernel) ?_
  refine q_cO (L := S7) (L' := S8) (As := [.int (nI 0), .int (nI 1)]) C hs hP hD hS (cs_join S8 0 1 0 (by decide +kernel)) k_X5_join kl_L_51 rfl hl rfl rfl (Nat.le_of_ble_eq_true rfl) ⟨⟨rfl, rfl⟩, Nat.le_of_ble_eq_true rfl, Nat.le_of_ble_eq_true rfl⟩ ⟨Nat.le_of_ble_eq_true rfl, Nat.le_of_ble_eq_true rfl⟩ dL_roll_257 (fun g z H locs hs hP hD hS => ?_)
  refine lv_if_ne (tgt := 336) C.hx C.hb dL_roll_260 (by decide) (fun c9 => absurd c9 (by decide +kernel)) (fun _ => ?_)
  refine lv_aload_n C.hx C.hb dL_roll_263 rfl (lv_at hl 0 rfl) ?_
  refine lv_iconst (v := nI 1) C.hx C.hb dL_roll_264 (by decide +kernel) ?_
  refine q_cO (L := S8) (L' := S8) (As := [.int (nI 1)]) C hs hP hD hS (cs_entry 1 0 (by decide +kernel)) k_X5_entry kl_L_61 rfl hl rfl rfl (Nat.le_of_ble_eq_true rfl) ⟨⟨rfl, rfl⟩, Nat.le_of_ble_eq_true rfl, Nat.le_of_ble_eq_true rfl⟩ ⟨Nat.le_of_ble_eq_true rfl, Nat.le_of_ble_eq_true rfl⟩ dL_roll_265 (fun g z H locs hs hP hD hS => ?_)
  refine lv_if_ne (tgt := 336) C.hx C.hb dL_roll_268 (by decide) (fun c9 => absurd c9 (by decide +kernel)) (fun _ => ?_)
  refine lv_aload_n C.hx C.hb dL_roll_271 rfl (lv_at hl 0 rfl) ?_
  refine lv_iconst (v := nI 1) C.hx C.hb dL_roll_272 (by decide +kernel) ?_
  refine q_cO (L := S8) (L' := S8) (As := [.int (nI 1)]) C hs hP hD hS (cs_person 1 0 (by decide +kernel)) k_X5_person kl_L_58 rfl hl rfl rfl (Nat.le_of_ble_eq_true rfl) ⟨⟨rfl, rfl⟩, Nat.le_of_ble_eq_true rfl, Nat.le_of_ble_eq_true rfl⟩ ⟨Nat.le_of_ble_eq_true rfl, Nat.le_of_ble_eq_true rfl⟩ dL_roll_273 (fun g z H locs hs hP hD hS => ?_)
  refine lv_if_ne (tgt := 336) C.hx C.hb dL_roll_276 (by decide) (fun c9 => absurd c9 (by decide +kernel)) (fun _ => ?_)
  refine lv_aload_n C.hx C.hb dL_roll_279 rfl (lv_at hl 0 rfl) ?_
  refine lv_iconst (v := nI 0) C.hx C.hb dL_roll_280 (by decide +kernel) ?_
  refine q_cO (L := S8) (L' := S8) (As := [.int (nI 0)]) C hs hP hD hS (cs_size 0 2 (by decide +kernel)) k_X5_size kl_L_64 rfl hl rfl rfl (Nat.le_of_ble_eq_true rfl) ⟨⟨rfl, rfl⟩, Nat.le_of_ble_eq_true rfl, Nat.le_of_ble_eq_true rfl⟩ ⟨Nat.le_of_ble_eq_true rfl, Nat.le_of_ble_eq_true rfl⟩ dL_roll_281 (fun g z H locs hs hP hD hS => ?_)
  refine lv_iconst (v := nI 2) C.hx C.hb dL_roll_284 (by decide +kernel) ?_
  refine lv_icmp_ne (tgt := 336) C.hx C.hb dL_roll_285 (by decide) (fun c9 => absurd c9 (by decide +kernel)) (fun _ => ?_)
  refine lv_aload_n C.hx C.hb dL_roll_288 rfl (lv_at hl 0 rfl) ?_
  refine lv_iconst (v := nI 1) C.hx C.hb dL_roll_289 (by decide +kernel) ?_
  refine q_cO (L := S8) (L' := S8) (As := [.int (nI 1)]) C hs hP hD hS (cs_size 1 2 (by decide +kernel)) k_X5_size kl_L_64 rfl hl rfl rfl (Nat.le_of_ble_eq_true rfl) ⟨⟨rfl, rfl⟩, Nat.le_of_ble_eq_true rfl, Nat.le_of_ble_eq_true rfl⟩ ⟨Nat.le_of_ble_eq_true rfl, Nat.le_of_ble_eq_true rfl⟩ dL_roll_290 (fun g z H locs hs hP hD hS => ?_)
  refine lv_iconst (v := nI 2) C.hx C.hb dL_roll_293 (by decide +kernel) ?_
  refine lv_icmp_ne (tgt := 336) C.hx C.hb dL_roll_294 (by decide) (fun c9 => absurd c9 (by decide +kernel)) (fun _ => ?_)
  refine lv_aload_n C.hx C.hb dL_roll_297 rfl (lv_at hl 0 rfl) ?_
  refine lv_iconst (v := nI 0) C.hx C.hb dL_roll_298 (by decide +kernel) ?_
  refine lv_iconst (v := nI 1) C.hx C.hb dL_roll_299 (by decide +kernel) ?_
  refine lv_bipush (v := nI 8) C.hx C.hb dL_roll_300 (by decide +kernel) ?_
  refine lv_iconst (v := nI 1) C.hx C.hb dL_roll_302 (by decide +kernel) ?_
  refine q_cP (L := S8) (L' := S8) (r := nI 1) (c2 := 1567) (s2 := 9979) (As := [.int (nI 0), .int (nI 1), .int (nI 8), .int (nI 1)]) C hs hP hD hS (cs_Lweight C.htr 0 1 8 1 (by decide +kernel)) k_L_weight kl_L_115 hl rfl rfl (Nat.le_of_ble_eq_true rfl) ⟨Nat.le_of_ble_eq_true rfl, Nat.le_of_ble_eq_true rfl⟩ ⟨Nat.le_of_ble_eq_true rfl, Nat.le_of_ble_eq_true rfl⟩ ⟨Nat.le_of_ble_eq_true rfl, Nat.le_of_ble_eq_true rfl⟩ dL_roll_303 (fun g z H locs hs hP hD hS => ?_)
  refine lv_if_eq (tgt := 336) C.hx C.hb dL_roll_306 (by decide) (fun c9 => absurd c9 (by decide +kernel)) (fun _ => ?_)
  refine lv_aload_n C.hx C.hb dL_roll_309 rfl (lv_at hl 0 rfl) ?_
  refine lv_iconst (v := nI 1) C.hx C.hb dL_roll_310 (by decide +kernel) ?_
  refine lv_iconst (v := nI 3) C.hx C.hb dL_roll_311 (by decide +kernel) ?_
  refine lv_bipush (v := nI 6) C.hx C.hb dL_roll_312 (by decide +kernel) ?_
  refine lv_iconst (v := nI 3) C.hx C.hb dL_roll_314 (by decide +kernel) ?_
  refine q_cP (L := S8) (L' := S8) (r := nI 1) (c2 := 1567) (s2 := 9979) (As := [.int (nI 1), .int (nI 3), .int (nI 6), .int (nI 3)]) C hs hP hD hS (cs_Lweight C.htr 1 3 6 3 (by decide +kernel)) k_L_weight kl_L_115 hl rfl rfl (Nat.le_of_ble_eq_true rfl) ⟨Nat.le_of_ble_eq_true rfl, Nat.le_of_ble_eq_true rfl⟩ ⟨Nat.le_of_ble_eq_true rfl, Nat.le_of_ble_eq_true rfl⟩ ⟨Nat.le_of_ble_eq_true rfl, Nat.le_of_ble_eq_true rfl⟩ dL_roll_315 (fun g z H locs hs hP hD hS => ?_)
  refine lv_if_eq (tgt := 336) C.hx C.hb dL_roll_318 (by decide) (fun c9 => absurd c9 (by decide +kernel)) (fun _ => ?_)
  exact kk g z H locs ls hs hP hD hS hl

set_option maxRecDepth 100000 in
set_option maxHeartbeats 4000000 in
theorem tr_roll_3 {p : Program} {l : Launch} {e : Env} {s : State} {m : MethodId} {args : Array Value} {below : List Frame} {meth : Method} {c : Code} {D : va_G} {cA : ClassId} {A : Nat → Prop} {ad : Nat → Nat} {Q : State → Prop} (C : lcx p l s m c cL_roll 1 D cA A) (kk : ∀ (g : Nat → Nat → Int32) (z : Nat → Nat) (H : Heap) (locs : List Loc) (ls : Array Slot), isL S10 g z → va_P D vwCl (rlW cA ad g z) H → va_D A (rlW cA ad g z) → va_S A s.heap H locs → lv_has ls 1 [(0, .ref (ad 70))] → W p l e rm_Lroll s m args below meth c H locs 1568 9985 Q (F0 m 433 ls [])) : ∀ (g : Nat → Nat → Int32) (z : Nat → Nat) (H : Heap) (locs : List Loc) (ls : Array Slot), isL S8 g z → va_P D vwCl (rlW cA ad g z) H → va_D A (rlW cA ad g z) → va_S A s.heap H locs → lv_has ls 1 [(0, .ref (ad 70))] → W p l e rm_Lroll s m args below meth c H locs 1567 9979 Q (F0 m 321 ls []) := by
  intro g z H locs ls hs hP hD hS hl
  refine lv_aload_n C.hx C.hb dL_roll_321 rfl (lv_at hl 0 rfl) ?_
  refine lv_bipush (v := nI 12) C.hx C.hb dL_roll_322 (by decide +kernel) ?_
  refine lv_iconst (v := nI 3) C.hx C.hb dL_roll_324 (by decide +kernel) ?_
  refine lv_iconst (v := nI 1) C.hx C.hb dL_roll_325 (by decide +kernel) ?_
  refine lv_iconst (v := nI 0) C.hx C.hb dL_roll_326 (by decide +kernel) ?_
  refine lv_iconst (v := nI 0) C.hx C.hb dL_roll_327 (by decide +kernel) ?_
  refine q_cA (L := S8) (L' := S8) (r := -7000003) (c2 := 1568) (s2 := 9985) (As := [.int (nI 12), .int (nI 3), .int (nI 1), .int (nI 0), .int (nI 0)]) C hs hP hD hS (cx_join C.htr 3 1 (nI 0) (nI 0) (by decide +kernel)) kl_L_102 hl rfl rfl (Nat.le_of_ble_eq_true rfl) ⟨Nat.le_of_ble_eq_true rfl, Nat.le_of_ble_eq_true rfl⟩ ⟨Nat.le_of_ble_eq_true rfl, Nat.le_of_ble_eq_true rfl⟩ ⟨Nat.le_of_ble_eq_true rfl, Nat.le_of_ble_eq_true rfl⟩ dL_roll_328 (fun g z H locs hs hP hD hS => ?_)
  refine lv_ldc (v := -7000003) C.hx C.hb C.hown (C.hT.use kk_L_96 args) dL_roll_331 ?_
  refine lv_icmp_eq (tgt := 338) C.hx C.hb dL_roll_333 (by decide) (fun _ => ?_) (fun c9 => absurd c9 (by decide +kernel))
  refine lv_aload_n C.hx C.hb dL_roll_338 rfl (lv_at hl 0 rfl) ?_
  refine lv_iconst (v := nI 1) C.hx C.hb dL_roll_339 (by decide +kernel) ?_
  refine lv_iconst (v := nI 2) C.hx C.hb dL_roll_340 (by decide +kernel) ?_
  refine lv_iconst (v := nI 1) C.hx C.hb dL_roll_341 (by decide +kernel) ?_
  refine q_cO (L := S8) (L' := S9) (As := [.int (nI 1), .int (nI 2), .int (q_b true)]) C hs hP hD hS (cs_block S9 1 2 true false (by decide +kernel)) k_X5_block kl_L_42 rfl hl rfl rfl (Nat.le_of_ble_eq_true rfl) ⟨⟨rfl, rfl⟩, Nat.le_of_ble_eq_true rfl, Nat.le_of_ble_eq_true rfl⟩ ⟨Nat.le_of_ble_eq_true rfl, Nat.le_of_ble_eq_true rfl⟩ dL_roll_342 (fun g z H locs hs hP hD hS => ?_)
  refine lv_if_ne (tgt := 670) C.hx C.hb dL_roll_345 (by decide) (fun c9 => absurd c9 (by decide +kernel)) (fun _ => ?_)
  refine lv_aload_n C.hx C.hb dL_roll_348 rfl (lv_at hl 0 rfl) ?_
  refine lv_iconst (v := nI 0) C.hx C.hb dL_roll_349 (by decide +kernel) ?_
  refine lv_iconst (v := nI 2) C.hx C.hb dL_roll_350 (by decide +kernel) ?_
  refine lv_bipush (v := nI 7) C.hx C.hb dL_roll_351 (by decide +kernel) ?_
  refine lv_iconst (v := nI 2) C.hx C.hb dL_roll_353 (by decide +kernel) ?_
  refine q_cP (L := S9) (L' := S9) (r := nI 1) (c2 := 1568) (s2 := 9985) (As := [.int (nI 0), .int (nI 2), .int (nI 7), .int (nI 2)]) C hs hP hD hS (cs_Lweight C.htr 0 2 7 2 (by decide +kernel)) k_L_weight kl_L_115 hl rfl rfl (Nat.le_of_ble_eq_true rfl) ⟨Nat.le_of_ble_eq_true rfl, Nat.le_of_ble_eq_true rfl⟩ ⟨Nat.le_of_ble_eq_true rfl, Nat.le_of_ble_eq_true rfl⟩ ⟨Nat.le_of_ble_eq_true rfl, Nat.le_of_ble_eq_true rfl⟩ dL_roll_354 (fun g z H locs hs hP hD hS => ?_)
  refine lv_if_eq (tgt := 670) C.hx C.hb dL_roll_357 (by decide) (fun c9 => absurd c9 (by decide +kernel)) (fun _ => ?_)
  refine lv_aload_n C.hx C.hb dL_roll_360 rfl (lv_at hl 0 rfl) ?_
  refine lv_iconst (v := nI 1) C.hx C.hb dL_roll_361 (by decide +kernel) ?_
  refine lv_iconst (v := nI 2) C.hx C.hb dL_roll_362 (by decide +kernel) ?_
  refine lv_iconst (v := nI 2) C.hx C.hb dL_roll_363 (by decide +kernel) ?_
  refine lv_iconst (v := nI 2) C.hx C.hb dL_roll_364 (by decide +kernel) ?_
  refine q_cP (L := S9) (L' := S9) (r := nI 1) (c2 := 1568) (s2 := 9985) (As := [.int (nI 1), .int (nI 2), .int (nI 2), .int (nI 2)]) C hs hP hD hS (cs_Lweight C.htr 1 2 2 2 (by decide +kernel)) k_L_weight kl_L_115 hl rfl rfl (Nat.le_of_ble_eq_true rfl) ⟨Nat.le_of_ble_eq_true rfl, Nat.le_of_ble_eq_true rfl⟩ ⟨Nat.le_of_ble_eq_true rfl, Nat.le_of_ble_eq_true rfl⟩ ⟨Nat.le_of_ble_eq_true rfl, Nat.le_of_ble_eq_true rfl⟩ dL_roll_365 (fun g z H locs hs hP hD hS => ?_)
  refine lv_if_eq (tgt := 670) C.hx C.hb dL_roll_368 (by decide) (fun c9 => absurd c9 (by decide +kernel)) (fun _ => ?_)
  refine lv_aload_n C.hx C.hb dL_roll_371 rfl (lv_at hl 0 rfl) ?_
  refine lv_iconst (v := nI 2) C.hx C.hb dL_roll_372 (by decide +kernel) ?_
  refine lv_iconst (v := nI 1) C.hx C.hb dL_roll_373 (by decide +kernel) ?_
  refine lv_iconst (v := nI 1) C.hx C.hb dL_roll_374 (by decide +kernel) ?_
  refine q_cO (L := S9) (L' := S9) (As := [.int (nI 2), .int (nI 1), .int (q_b true)]) C hs hP hD hS (cs_block S9 2 1 true true (by decide +kernel)) k_X5_block kl_L_42 rfl hl rfl rfl (Nat.le_of_ble_eq_true rfl) ⟨⟨rfl, rfl⟩, Nat.le_of_ble_eq_true rfl, Nat.le_of_ble_eq_true rfl⟩ ⟨Nat.le_of_ble_eq_true rfl, Nat.le_of_ble_eq_true rfl⟩ dL_roll_375 (fun g z H locs hs hP hD hS => ?_)
  refine lv_if_eq (tgt := 670) C.hx C.hb dL_roll_378 (by decide) (fun c9 => absurd c9 (by decide +kernel)) (fun _ => ?_)
  refine lv_aload_n C.hx C.hb dL_roll_381 rfl (lv_at hl 0 rfl) ?_
  refine lv_iconst (v := nI 1) C.hx C.hb dL_roll_382 (by decide +kernel) ?_
  refine lv_iconst (v := nI 2) C.hx C.hb dL_roll_383 (by decide +kernel) ?_
  refine lv_iconst (v := nI 0) C.hx C.hb dL_roll_384 (by decide +kernel) ?_
  refine q_cO (L := S9) (L' := S8) (As := [.int (nI 1), .int (nI 2), .int (q_b false)]) C hs hP hD hS (cs_block S8 1 2 false true (by decide +kernel)) k_X5_block kl_L_42 rfl hl rfl rfl (Nat.le_of_ble_eq_true rfl) ⟨⟨rfl, rfl⟩, Nat.le_of_ble_eq_true rfl, Nat.le_of_ble_eq_true rfl⟩ ⟨Nat.le_of_ble_eq_true rfl, Nat.le_of_ble_eq_true rfl⟩ dL_roll_385 (fun g z H locs hs hP hD hS => ?_)
  refine lv_if_eq (tgt := 670) C.hx C.hb dL_roll_388 (by decide) (fun c9 => absurd c9 (by decide +kernel)) (fun _ => ?_)
  refine lv_aload_n C.hx C.hb dL_roll_391 rfl (lv_at hl 0 rfl) ?_
  refine lv_iconst (v := nI 2) C.hx C.hb dL_roll_392 (by decide +kernel) ?_
  refine lv_iconst (v := nI 1) C.hx C.hb dL_roll_393 (by decide +kernel) ?_
  refine lv_iconst (v := nI 0) C.hx C.hb dL_roll_394 (by decide +kernel) ?_
  refine q_cO (L := S8) (L' := S8) (As := [.int (nI 2), .int (nI 1), .int (q_b false)]) C hs hP hD hS (cs_block S8 2 1 false false (by decide +kernel)) k_X5_block kl_L_42 rfl hl rfl rfl (Nat.le_of_ble_eq_true rfl) ⟨⟨rfl, rfl⟩, Nat.le_of_ble_eq_true rfl, Nat.le_of_ble_eq_true rfl⟩ ⟨Nat.le_of_ble_eq_true rfl, Nat.le_of_ble_eq_true rfl⟩ dL_roll_395 (fun g z H locs hs hP hD hS => ?_)
  refine lv_if_ne (tgt := 670) C.hx C.hb dL_roll_398 (by decide) (fun c9 => absurd c9 (by decide +kernel)) (fun _ => ?_)
  refine lv_aload_n C.hx C.hb dL_roll_401 rfl (lv_at hl 0 rfl) ?_
  refine lv_iconst (v := nI 0) C.hx C.hb dL_roll_402 (by decide +kernel) ?_
  refine lv_iconst (v := nI 2) C.hx C.hb dL_roll_403 (by decide +kernel) ?_
  refine lv_bipush (v := nI 7) C.hx C.hb dL_roll_404 (by decide +kernel) ?_
  refine lv_iconst (v := nI 0) C.hx C.hb dL_roll_406 (by decide +kernel) ?_
  refine q_cP (L := S8) (L' := S8) (r := nI 1) (c2 := 1568) (s2 := 9985) (As := [.int (nI 0), .int (nI 2), .int (nI 7), .int (nI 0)]) C hs hP hD hS (cs_Lweight C.htr 0 2 7 0 (by decide +kernel)) k_L_weight kl_L_115 hl rfl rfl (Nat.le_of_ble_eq_true rfl) ⟨Nat.le_of_ble_eq_true rfl, Nat.le_of_ble_eq_true rfl⟩ ⟨Nat.le_of_ble_eq_true rfl, Nat.le_of_ble_eq_true rfl⟩ ⟨Nat.le_of_ble_eq_true rfl, Nat.le_of_ble_eq_true rfl⟩ dL_roll_407 (fun g z H locs hs hP hD hS => ?_)
  refine lv_if_eq (tgt := 670) C.hx C.hb dL_roll_410 (by decide) (fun c9 => absurd c9 (by decide +kernel)) (fun _ => ?_)
  refine lv_aload_n C.hx C.hb dL_roll_413 rfl (lv_at hl 0 rfl) ?_
  refine lv_iconst (v := nI 0) C.hx C.hb dL_roll_414 (by decide +kernel) ?_
  refine lv_iconst (v := nI 1) C.hx C.hb dL_roll_415 (by decide +kernel) ?_
  refine lv_iconst (v := nI 1) C.hx C.hb dL_roll_416 (by decide +kernel) ?_
  refine q_cO (L := S8) (L' := S10) (As := [.int (nI 0), .int (nI 1), .int (q_b true)]) C hs hP hD hS (cs_bar S10 0 1 true false (by decide +kernel)) k_X5_bar kl_L_17 rfl hl rfl rfl (Nat.le_of_ble_eq_true rfl) ⟨⟨rfl, rfl⟩, Nat.le_of_ble_eq_true rfl, Nat.le_of_ble_eq_true rfl⟩ ⟨Nat.le_of_ble_eq_true rfl, Nat.le_of_ble_eq_true rfl⟩ dL_roll_417 (fun g z H locs hs hP hD hS => ?_)
  refine lv_if_ne (tgt := 670) C.hx C.hb dL_roll_420 (by decide) (fun c9 => absurd c9 (by decide +kernel)) (fun _ => ?_)
  refine lv_aload_n C.hx C.hb dL_roll_423 rfl (lv_at hl 0 rfl) ?_
  refine lv_iconst (v := nI 1) C.hx C.hb dL_roll_424 (by decide +kernel) ?_
  refine lv_iconst (v := nI 0) C.hx C.hb dL_roll_425 (by decide +kernel) ?_
  refine lv_iconst (v := nI 1) C.hx C.hb dL_roll_426 (by decide +kernel) ?_
  refine q_cO (L := S10) (L' := S10) (As := [.int (nI 1), .int (nI 0), .int (q_b true)]) C hs hP hD hS (cs_bar S10 1 0 true true (by decide +kernel)) k_X5_bar kl_L_17 rfl hl rfl rfl (Nat.le_of_ble_eq_true rfl) ⟨⟨rfl, rfl⟩, Nat.le_of_ble_eq_true rfl, Nat.le_of_ble_eq_true rfl⟩ ⟨Nat.le_of_ble_eq_true rfl, Nat.le_of_ble_eq_true rfl⟩ dL_roll_427 (fun g z H locs hs hP hD hS => ?_)
  refine lv_if_eq (tgt := 670) C.hx C.hb dL_roll_430 (by decide) (fun c9 => absurd c9 (by decide +kernel)) (fun _ => ?_)
  exact kk g z H locs ls hs hP hD hS hl

set_option maxRecDepth 100000 in
set_option maxHeartbeats 4000000 in
theorem tr_roll_4 {p : Program} {l : Launch} {e : Env} {s : State} {m : MethodId} {args : Array Value} {below : List Frame} {meth : Method} {c : Code} {D : va_G} {cA : ClassId} {A : Nat → Prop} {ad : Nat → Nat} {Q : State → Prop} (C : lcx p l s m c cL_roll 1 D cA A) (kk : ∀ (g : Nat → Nat → Int32) (z : Nat → Nat) (H : Heap) (locs : List Loc) (ls : Array Slot), isL S13 g z → va_P D vwCl (rlW cA ad g z) H → va_D A (rlW cA ad g z) → va_S A s.heap H locs → lv_has ls 1 [(0, .ref (ad 70))] → W p l e rm_Lroll s m args below meth c H locs 1569 9991 Q (F0 m 546 ls [])) : ∀ (g : Nat → Nat → Int32) (z : Nat → Nat) (H : Heap) (locs : List Loc) (ls : Array Slot), isL S10 g z → va_P D vwCl (rlW cA ad g z) H → va_D A (rlW cA ad g z) → va_S A s.heap H locs → lv_has ls 1 [(0, .ref (ad 70))] → W p l e rm_Lroll s m args below meth c H locs 1568 9985 Q (F0 m 433 ls []) := by
  intro g z H locs ls hs hP hD hS hl
  refine lv_aload_n C.hx C.hb dL_roll_433 rfl (lv_at hl 0 rfl) ?_
  refine lv_iconst (v := nI 0) C.hx C.hb dL_roll_434 (by decide +kernel) ?_
  refine lv_iconst (v := nI 2) C.hx C.hb dL_roll_435 (by decide +kernel) ?_
  refine lv_bipush (v := nI 7) C.hx C.hb dL_roll_436 (by decide +kernel) ?_
  refine lv_iconst (v := nI 0) C.hx C.hb dL_roll_438 (by decide +kernel) ?_
  refine q_cP (L := S10) (L' := S10) (r := nI 1) (c2 := 1568) (s2 := 9985) (As := [.int (nI 0), .int (nI 2), .int (nI 7), .int (nI 0)]) C hs hP hD hS (cs_Lweight C.htr 0 2 7 0 (by decide +kernel)) k_L_weight kl_L_115 hl rfl rfl (Nat.le_of_ble_eq_true rfl) ⟨Nat.le_of_ble_eq_true rfl, Nat.le_of_ble_eq_true rfl⟩ ⟨Nat.le_of_ble_eq_true rfl, Nat.le_of_ble_eq_true rfl⟩ ⟨Nat.le_of_ble_eq_true rfl, Nat.le_of_ble_eq_true rfl⟩ dL_roll_439 (fun g z H locs hs hP hD hS => ?_)
  refine lv_if_eq (tgt := 670) C.hx C.hb dL_roll_442 (by decide) (fun c9 => absurd c9 (by decide +kernel)) (fun _ => ?_)
  refine lv_aload_n C.hx C.hb dL_roll_445 rfl (lv_at hl 0 rfl) ?_
  refine lv_iconst (v := nI 1) C.hx C.hb dL_roll_446 (by decide +kernel) ?_
  refine lv_sipush (v := nI 500) C.hx C.hb dL_roll_447 (by decide +kernel) ?_
  refine lv_sipush (v := nI 500) C.hx C.hb dL_roll_450 (by decide +kernel) ?_
  refine q_cO (L := S10) (L' := S11) (As := [.int (nI 1), .int (nI 500), .int (nI 500)]) C hs hP hD hS (cs_find S11 1 (nI 500) (nI 500) 1 (by decide +kernel)) k_X5_find kl_L_25 rfl hl rfl rfl (Nat.le_of_ble_eq_true rfl) ⟨⟨rfl, rfl⟩, Nat.le_of_ble_eq_true rfl, Nat.le_of_ble_eq_true rfl⟩ ⟨Nat.le_of_ble_eq_true rfl, Nat.le_of_ble_eq_true rfl⟩ dL_roll_453 (fun g z H locs hs hP hD hS => ?_)
  refine lv_iconst (v := nI 1) C.hx C.hb dL_roll_456 (by decide +kernel) ?_
  refine lv_icmp_ne (tgt := 670) C.hx C.hb dL_roll_457 (by decide) (fun c9 => absurd c9 (by decide +kernel)) (fun _ => ?_)
  refine lv_aload_n C.hx C.hb dL_roll_460 rfl (lv_at hl 0 rfl) ?_
  refine lv_iconst (v := nI 0) C.hx C.hb dL_roll_461 (by decide +kernel) ?_
  refine lv_iconst (v := nI 2) C.hx C.hb dL_roll_462 (by decide +kernel) ?_
  refine q_cO (L := S11) (L' := S11) (As := [.int (nI 0), .int (nI 2)]) C hs hP hD hS (cs_whyNot 0 2 0 (by decide +kernel)) k_X5_whyNot kl_L_48 rfl hl rfl rfl (Nat.le_of_ble_eq_true rfl) ⟨⟨rfl, rfl⟩, Nat.le_of_ble_eq_true rfl, Nat.le_of_ble_eq_true rfl⟩ ⟨Nat.le_of_ble_eq_true rfl, Nat.le_of_ble_eq_true rfl⟩ dL_roll_463 (fun g z H locs hs hP hD hS => ?_)
  refine lv_if_ne (tgt := 670) C.hx C.hb dL_roll_466 (by decide) (fun c9 => absurd c9 (by decide +kernel)) (fun _ => ?_)
  refine lv_aload_n C.hx C.hb dL_roll_469 rfl (lv_at hl 0 rfl) ?_
  refine lv_iconst (v := nI 2) C.hx C.hb dL_roll_470 (by decide +kernel) ?_
  refine lv_sipush (v := nI 400) C.hx C.hb dL_roll_471 (by decide +kernel) ?_
  refine lv_sipush (v := nI 500) C.hx C.hb dL_roll_474 (by decide +kernel) ?_
  refine q_cO (L := S11) (L' := S12) (As := [.int (nI 2), .int (nI 400), .int (nI 500)]) C hs hP hD hS (cs_find S12 2 (nI 400) (nI 500) 1 (by decide +kernel)) k_X5_find kl_L_25 rfl hl rfl rfl (Nat.le_of_ble_eq_true rfl) ⟨⟨rfl, rfl⟩, Nat.le_of_ble_eq_true rfl, Nat.le_of_ble_eq_true rfl⟩ ⟨Nat.le_of_ble_eq_true rfl, Nat.le_of_ble_eq_true rfl⟩ dL_roll_477 (fun g z H locs hs hP hD hS => ?_)
  refine lv_iconst (v := nI 1) C.hx C.hb dL_roll_480 (by decide +kernel) ?_
  refine lv_icmp_ne (tgt := 670) C.hx C.hb dL_roll_481 (by decide) (fun c9 => absurd c9 (by decide +kernel)) (fun _ => ?_)
  refine lv_aload_n C.hx C.hb dL_roll_484 rfl (lv_at hl 0 rfl) ?_
  refine lv_iconst (v := nI 0) C.hx C.hb dL_roll_485 (by decide +kernel) ?_
  refine lv_iconst (v := nI 2) C.hx C.hb dL_roll_486 (by decide +kernel) ?_
  refine q_cO (L := S12) (L' := S12) (As := [.int (nI 0), .int (nI 2)]) C hs hP hD hS (cs_whyNot 0 2 0 (by decide +kernel)) k_X5_whyNot kl_L_48 rfl hl rfl rfl (Nat.le_of_ble_eq_true rfl) ⟨⟨rfl, rfl⟩, Nat.le_of_ble_eq_true rfl, Nat.le_of_ble_eq_true rfl⟩ ⟨Nat.le_of_ble_eq_true rfl, Nat.le_of_ble_eq_true rfl⟩ dL_roll_487 (fun g z H locs hs hP hD hS => ?_)
  refine lv_if_ne (tgt := 670) C.hx C.hb dL_roll_490 (by decide) (fun c9 => absurd c9 (by decide +kernel)) (fun _ => ?_)
  refine lv_aload_n C.hx C.hb dL_roll_493 rfl (lv_at hl 0 rfl) ?_
  refine lv_iconst (v := nI 2) C.hx C.hb dL_roll_494 (by decide +kernel) ?_
  refine lv_sipush (v := nI 500) C.hx C.hb dL_roll_495 (by decide +kernel) ?_
  refine lv_sipush (v := nI 999) C.hx C.hb dL_roll_498 (by decide +kernel) ?_
  refine q_cO (L := S12) (L' := S13) (As := [.int (nI 2), .int (nI 500), .int (nI 999)]) C hs hP hD hS (cs_find S13 2 (nI 500) (nI 999) 1 (by decide +kernel)) k_X5_find kl_L_25 rfl hl rfl rfl (Nat.le_of_ble_eq_true rfl) ⟨⟨rfl, rfl⟩, Nat.le_of_ble_eq_true rfl, Nat.le_of_ble_eq_true rfl⟩ ⟨Nat.le_of_ble_eq_true rfl, Nat.le_of_ble_eq_true rfl⟩ dL_roll_501 (fun g z H locs hs hP hD hS => ?_)
  refine lv_iconst (v := nI 1) C.hx C.hb dL_roll_504 (by decide +kernel) ?_
  refine lv_icmp_ne (tgt := 670) C.hx C.hb dL_roll_505 (by decide) (fun c9 => absurd c9 (by decide +kernel)) (fun _ => ?_)
  refine lv_aload_n C.hx C.hb dL_roll_508 rfl (lv_at hl 0 rfl) ?_
  refine lv_iconst (v := nI 0) C.hx C.hb dL_roll_509 (by decide +kernel) ?_
  refine lv_iconst (v := nI 2) C.hx C.hb dL_roll_510 (by decide +kernel) ?_
  refine lv_bipush (v := nI 7) C.hx C.hb dL_roll_511 (by decide +kernel) ?_
  refine lv_iconst (v := nI 4) C.hx C.hb dL_roll_513 (by decide +kernel) ?_
  refine q_cP (L := S13) (L' := S13) (r := nI 1) (c2 := 1568) (s2 := 9985) (As := [.int (nI 0), .int (nI 2), .int (nI 7), .int (nI 4)]) C hs hP hD hS (cs_Lweight C.htr 0 2 7 4 (by decide +kernel)) k_L_weight kl_L_115 hl rfl rfl (Nat.le_of_ble_eq_true rfl) ⟨Nat.le_of_ble_eq_true rfl, Nat.le_of_ble_eq_true rfl⟩ ⟨Nat.le_of_ble_eq_true rfl, Nat.le_of_ble_eq_true rfl⟩ ⟨Nat.le_of_ble_eq_true rfl, Nat.le_of_ble_eq_true rfl⟩ dL_roll_514 (fun g z H locs hs hP hD hS => ?_)
  refine lv_if_eq (tgt := 670) C.hx C.hb dL_roll_517 (by decide) (fun c9 => absurd c9 (by decide +kernel)) (fun _ => ?_)
  refine lv_aload_n C.hx C.hb dL_roll_520 rfl (lv_at hl 0 rfl) ?_
  refine lv_iconst (v := nI 1) C.hx C.hb dL_roll_521 (by decide +kernel) ?_
  refine lv_iconst (v := nI 2) C.hx C.hb dL_roll_522 (by decide +kernel) ?_
  refine lv_iconst (v := nI 2) C.hx C.hb dL_roll_523 (by decide +kernel) ?_
  refine lv_iconst (v := nI 4) C.hx C.hb dL_roll_524 (by decide +kernel) ?_
  refine q_cP (L := S13) (L' := S13) (r := nI 1) (c2 := 1568) (s2 := 9985) (As := [.int (nI 1), .int (nI 2), .int (nI 2), .int (nI 4)]) C hs hP hD hS (cs_Lweight C.htr 1 2 2 4 (by decide +kernel)) k_L_weight kl_L_115 hl rfl rfl (Nat.le_of_ble_eq_true rfl) ⟨Nat.le_of_ble_eq_true rfl, Nat.le_of_ble_eq_true rfl⟩ ⟨Nat.le_of_ble_eq_true rfl, Nat.le_of_ble_eq_true rfl⟩ ⟨Nat.le_of_ble_eq_true rfl, Nat.le_of_ble_eq_true rfl⟩ dL_roll_525 (fun g z H locs hs hP hD hS => ?_)
  refine lv_if_eq (tgt := 670) C.hx C.hb dL_roll_528 (by decide) (fun c9 => absurd c9 (by decide +kernel)) (fun _ => ?_)
  refine lv_aload_n C.hx C.hb dL_roll_531 rfl (lv_at hl 0 rfl) ?_
  refine lv_bipush (v := nI 12) C.hx C.hb dL_roll_532 (by decide +kernel) ?_
  refine lv_iconst (v := nI 2) C.hx C.hb dL_roll_534 (by decide +kernel) ?_
  refine lv_iconst (v := nI 0) C.hx C.hb dL_roll_535 (by decide +kernel) ?_
  refine lv_iconst (v := nI 0) C.hx C.hb dL_roll_536 (by decide +kernel) ?_
  refine lv_iconst (v := nI 0) C.hx C.hb dL_roll_537 (by decide +kernel) ?_
  refine q_cA (L := S13) (L' := S13) (r := -7000003) (c2 := 1569) (s2 := 9991) (As := [.int (nI 12), .int (nI 2), .int (nI 0), .int (nI 0), .int (nI 0)]) C hs hP hD hS (cx_join C.htr 2 0 (nI 0) (nI 0) (by decide +kernel)) kl_L_102 hl rfl rfl (Nat.le_of_ble_eq_true rfl) ⟨Nat.le_of_ble_eq_true rfl, Nat.le_of_ble_eq_true rfl⟩ ⟨Nat.le_of_ble_eq_true rfl, Nat.le_of_ble_eq_true rfl⟩ ⟨Nat.le_of_ble_eq_true rfl, Nat.le_of_ble_eq_true rfl⟩ dL_roll_538 (fun g z H locs hs hP hD hS => ?_)
  refine lv_ldc (v := -7000003) C.hx C.hb C.hown (C.hT.use kk_L_96 args) dL_roll_541 ?_
  refine lv_icmp_ne (tgt := 670) C.hx C.hb dL_roll_543 (by decide) (fun c9 => absurd c9 (by decide +kernel)) (fun _ => ?_)
  exact kk g z H locs ls hs hP hD hS hl

set_option maxRecDepth 100000 in
set_option maxHeartbeats 4000000 in
theorem tr_roll_5 {p : Program} {l : Launch} {e : Env} {s : State} {m : MethodId} {args : Array Value} {below : List Frame} {meth : Method} {c : Code} {D : va_G} {cA : ClassId} {A : Nat → Prop} {ad : Nat → Nat} {Q : State → Prop} (C : lcx p l s m c cL_roll 1 D cA A) (kk : ∀ (g : Nat → Nat → Int32) (z : Nat → Nat) (H : Heap) (locs : List Loc) (ls : Array Slot), isL S17 g z → va_P D vwCl (rlW cA ad g z) H → va_D A (rlW cA ad g z) → va_S A s.heap H locs → lv_has ls 1 [(0, .ref (ad 70))] → W p l e rm_Lroll s m args below meth c H locs 1570 9997 Q (F0 m 660 ls [])) : ∀ (g : Nat → Nat → Int32) (z : Nat → Nat) (H : Heap) (locs : List Loc) (ls : Array Slot), isL S13 g z → va_P D vwCl (rlW cA ad g z) H → va_D A (rlW cA ad g z) → va_S A s.heap H locs → lv_has ls 1 [(0, .ref (ad 70))] → W p l e rm_Lroll s m args below meth c H locs 1569 9991 Q (F0 m 546 ls []) := by
  intro g z H locs ls hs hP hD hS hl
  refine lv_aload_n C.hx C.hb dL_roll_546 rfl (lv_at hl 0 rfl) ?_
  refine lv_iconst (v := nI 1) C.hx C.hb dL_roll_547 (by decide +kernel) ?_
  refine lv_iconst (v := nI 0) C.hx C.hb dL_roll_548 (by decide +kernel) ?_
  refine lv_iconst (v := nI 0) C.hx C.hb dL_roll_549 (by decide +kernel) ?_
  refine q_cO (L := S13) (L' := S14) (As := [.int (nI 1), .int (nI 0), .int (q_b false)]) C hs hP hD hS (cs_bar S14 1 0 false true (by decide +kernel)) k_X5_bar kl_L_17 rfl hl rfl rfl (Nat.le_of_ble_eq_true rfl) ⟨⟨rfl, rfl⟩, Nat.le_of_ble_eq_true rfl, Nat.le_of_ble_eq_true rfl⟩ ⟨Nat.le_of_ble_eq_true rfl, Nat.le_of_ble_eq_true rfl⟩ dL_roll_550 (fun g z H locs hs hP hD hS => ?_)
  refine lv_if_eq (tgt := 670) C.hx C.hb dL_roll_553 (by decide) (fun c9 => absurd c9 (by decide +kernel)) (fun _ => ?_)
  refine lv_aload_n C.hx C.hb dL_roll_556 rfl (lv_at hl 0 rfl) ?_
  refine lv_iconst (v := nI 2) C.hx C.hb dL_roll_557 (by decide +kernel) ?_
  refine lv_iconst (v := nI 0) C.hx C.hb dL_roll_558 (by decide +kernel) ?_
  refine q_cO (L := S14) (L' := S15) (As := [.int (nI 2), .int (nI 0)]) C hs hP hD hS (cs_join S15 2 0 0 (by decide +kernel)) k_X5_join kl_L_51 rfl hl rfl rfl (Nat.le_of_ble_eq_true rfl) ⟨⟨rfl, rfl⟩, Nat.le_of_ble_eq_true rfl, Nat.le_of_ble_eq_true rfl⟩ ⟨Nat.le_of_ble_eq_true rfl, Nat.le_of_ble_eq_true rfl⟩ dL_roll_559 (fun g z H locs hs hP hD hS => ?_)
  refine lv_if_ne (tgt := 670) C.hx C.hb dL_roll_562 (by decide) (fun c9 => absurd c9 (by decide +kernel)) (fun _ => ?_)
  refine lv_aload_n C.hx C.hb dL_roll_565 rfl (lv_at hl 0 rfl) ?_
  refine lv_iconst (v := nI 2) C.hx C.hb dL_roll_566 (by decide +kernel) ?_
  refine q_cO (L := S15) (L' := S15) (As := [.int (nI 2)]) C hs hP hD hS (cs_entry 2 0 (by decide +kernel)) k_X5_entry kl_L_61 rfl hl rfl rfl (Nat.le_of_ble_eq_true rfl) ⟨⟨rfl, rfl⟩, Nat.le_of_ble_eq_true rfl, Nat.le_of_ble_eq_true rfl⟩ ⟨Nat.le_of_ble_eq_true rfl, Nat.le_of_ble_eq_true rfl⟩ dL_roll_567 (fun g z H locs hs hP hD hS => ?_)
  refine lv_if_ne (tgt := 670) C.hx C.hb dL_roll_570 (by decide) (fun c9 => absurd c9 (by decide +kernel)) (fun _ => ?_)
  refine lv_aload_n C.hx C.hb dL_roll_573 rfl (lv_at hl 0 rfl) ?_
  refine lv_iconst (v := nI 2) C.hx C.hb dL_roll_574 (by decide +kernel) ?_
  refine q_cO (L := S15) (L' := S15) (As := [.int (nI 2)]) C hs hP hD hS (cs_size 2 3 (by decide +kernel)) k_X5_size kl_L_64 rfl hl rfl rfl (Nat.le_of_ble_eq_true rfl) ⟨⟨rfl, rfl⟩, Nat.le_of_ble_eq_true rfl, Nat.le_of_ble_eq_true rfl⟩ ⟨Nat.le_of_ble_eq_true rfl, Nat.le_of_ble_eq_true rfl⟩ dL_roll_575 (fun g z H locs hs hP hD hS => ?_)
  refine lv_iconst (v := nI 3) C.hx C.hb dL_roll_578 (by decide +kernel) ?_
  refine lv_icmp_ne (tgt := 670) C.hx C.hb dL_roll_579 (by decide) (fun c9 => absurd c9 (by decide +kernel)) (fun _ => ?_)
  refine lv_aload_n C.hx C.hb dL_roll_582 rfl (lv_at hl 0 rfl) ?_
  refine lv_iconst (v := nI 4) C.hx C.hb dL_roll_583 (by decide +kernel) ?_
  refine lv_iconst (v := nI 3) C.hx C.hb dL_roll_584 (by decide +kernel) ?_
  refine q_cO (L := S15) (L' := S16) (As := [.int (nI 4), .int (nI 3)]) C hs hP hD hS (cs_join S16 4 3 3 (by decide +kernel)) k_X5_join kl_L_51 rfl hl rfl rfl (Nat.le_of_ble_eq_true rfl) ⟨⟨rfl, rfl⟩, Nat.le_of_ble_eq_true rfl, Nat.le_of_ble_eq_true rfl⟩ ⟨Nat.le_of_ble_eq_true rfl, Nat.le_of_ble_eq_true rfl⟩ dL_roll_585 (fun g z H locs hs hP hD hS => ?_)
  refine lv_iconst (v := nI 3) C.hx C.hb dL_roll_588 (by decide +kernel) ?_
  refine lv_icmp_ne (tgt := 670) C.hx C.hb dL_roll_589 (by decide) (fun c9 => absurd c9 (by decide +kernel)) (fun _ => ?_)
  refine lv_aload_n C.hx C.hb dL_roll_592 rfl (lv_at hl 0 rfl) ?_
  refine lv_iconst (v := nI 4) C.hx C.hb dL_roll_593 (by decide +kernel) ?_
  refine q_cO (L := S16) (L' := S16) (As := [.int (nI 4)]) C hs hP hD hS (cs_entry 4 3 (by decide +kernel)) k_X5_entry kl_L_61 rfl hl rfl rfl (Nat.le_of_ble_eq_true rfl) ⟨⟨rfl, rfl⟩, Nat.le_of_ble_eq_true rfl, Nat.le_of_ble_eq_true rfl⟩ ⟨Nat.le_of_ble_eq_true rfl, Nat.le_of_ble_eq_true rfl⟩ dL_roll_594 (fun g z H locs hs hP hD hS => ?_)
  refine lv_iconst (v := nI 3) C.hx C.hb dL_roll_597 (by decide +kernel) ?_
  refine lv_icmp_ne (tgt := 670) C.hx C.hb dL_roll_598 (by decide) (fun c9 => absurd c9 (by decide +kernel)) (fun _ => ?_)
  refine lv_aload_n C.hx C.hb dL_roll_601 rfl (lv_at hl 0 rfl) ?_
  refine lv_iconst (v := nI 1) C.hx C.hb dL_roll_602 (by decide +kernel) ?_
  refine q_cO (L := S16) (L' := S17) (As := [.int (nI 1)]) C hs hP hD hS (cs_split S17 1 5 (by decide +kernel)) k_X5_split kl_L_54 rfl hl rfl rfl (Nat.le_of_ble_eq_true rfl) ⟨⟨rfl, rfl⟩, Nat.le_of_ble_eq_true rfl, Nat.le_of_ble_eq_true rfl⟩ ⟨Nat.le_of_ble_eq_true rfl, Nat.le_of_ble_eq_true rfl⟩ dL_roll_603 (fun g z H locs hs hP hD hS => ?_)
  refine lv_iconst (v := nI 5) C.hx C.hb dL_roll_606 (by decide +kernel) ?_
  refine lv_icmp_ne (tgt := 670) C.hx C.hb dL_roll_607 (by decide) (fun c9 => absurd c9 (by decide +kernel)) (fun _ => ?_)
  refine lv_aload_n C.hx C.hb dL_roll_610 rfl (lv_at hl 0 rfl) ?_
  refine lv_iconst (v := nI 1) C.hx C.hb dL_roll_611 (by decide +kernel) ?_
  refine q_cO (L := S17) (L' := S17) (As := [.int (nI 1)]) C hs hP hD hS (cs_person 1 5 (by decide +kernel)) k_X5_person kl_L_58 rfl hl rfl rfl (Nat.le_of_ble_eq_true rfl) ⟨⟨rfl, rfl⟩, Nat.le_of_ble_eq_true rfl, Nat.le_of_ble_eq_true rfl⟩ ⟨Nat.le_of_ble_eq_true rfl, Nat.le_of_ble_eq_true rfl⟩ dL_roll_612 (fun g z H locs hs hP hD hS => ?_)
  refine lv_iconst (v := nI 5) C.hx C.hb dL_roll_615 (by decide +kernel) ?_
  refine lv_icmp_ne (tgt := 670) C.hx C.hb dL_roll_616 (by decide) (fun c9 => absurd c9 (by decide +kernel)) (fun _ => ?_)
  refine lv_aload_n C.hx C.hb dL_roll_619 rfl (lv_at hl 0 rfl) ?_
  refine lv_iconst (v := nI 1) C.hx C.hb dL_roll_620 (by decide +kernel) ?_
  refine q_cO (L := S17) (L' := S17) (As := [.int (nI 1)]) C hs hP hD hS (cs_entry 1 0 (by decide +kernel)) k_X5_entry kl_L_61 rfl hl rfl rfl (Nat.le_of_ble_eq_true rfl) ⟨⟨rfl, rfl⟩, Nat.le_of_ble_eq_true rfl, Nat.le_of_ble_eq_true rfl⟩ ⟨Nat.le_of_ble_eq_true rfl, Nat.le_of_ble_eq_true rfl⟩ dL_roll_621 (fun g z H locs hs hP hD hS => ?_)
  refine lv_if_ne (tgt := 670) C.hx C.hb dL_roll_624 (by decide) (fun c9 => absurd c9 (by decide +kernel)) (fun _ => ?_)
  refine lv_aload_n C.hx C.hb dL_roll_627 rfl (lv_at hl 0 rfl) ?_
  refine lv_iconst (v := nI 0) C.hx C.hb dL_roll_628 (by decide +kernel) ?_
  refine q_cO (L := S17) (L' := S17) (As := [.int (nI 0)]) C hs hP hD hS (cs_size 0 2 (by decide +kernel)) k_X5_size kl_L_64 rfl hl rfl rfl (Nat.le_of_ble_eq_true rfl) ⟨⟨rfl, rfl⟩, Nat.le_of_ble_eq_true rfl, Nat.le_of_ble_eq_true rfl⟩ ⟨Nat.le_of_ble_eq_true rfl, Nat.le_of_ble_eq_true rfl⟩ dL_roll_629 (fun g z H locs hs hP hD hS => ?_)
  refine lv_iconst (v := nI 2) C.hx C.hb dL_roll_632 (by decide +kernel) ?_
  refine lv_icmp_ne (tgt := 670) C.hx C.hb dL_roll_633 (by decide) (fun c9 => absurd c9 (by decide +kernel)) (fun _ => ?_)
  refine lv_aload_n C.hx C.hb dL_roll_636 rfl (lv_at hl 0 rfl) ?_
  refine lv_iconst (v := nI 5) C.hx C.hb dL_roll_637 (by decide +kernel) ?_
  refine q_cO (L := S17) (L' := S17) (As := [.int (nI 5)]) C hs hP hD hS (cs_size 5 1 (by decide +kernel)) k_X5_size kl_L_64 rfl hl rfl rfl (Nat.le_of_ble_eq_true rfl) ⟨⟨rfl, rfl⟩, Nat.le_of_ble_eq_true rfl, Nat.le_of_ble_eq_true rfl⟩ ⟨Nat.le_of_ble_eq_true rfl, Nat.le_of_ble_eq_true rfl⟩ dL_roll_638 (fun g z H locs hs hP hD hS => ?_)
  refine lv_iconst (v := nI 1) C.hx C.hb dL_roll_641 (by decide +kernel) ?_
  refine lv_icmp_ne (tgt := 670) C.hx C.hb dL_roll_642 (by decide) (fun c9 => absurd c9 (by decide +kernel)) (fun _ => ?_)
  refine lv_aload_n C.hx C.hb dL_roll_645 rfl (lv_at hl 0 rfl) ?_
  refine lv_bipush (v := nI 13) C.hx C.hb dL_roll_646 (by decide +kernel) ?_
  refine lv_iconst (v := nI 1) C.hx C.hb dL_roll_648 (by decide +kernel) ?_
  refine lv_iconst (v := nI 0) C.hx C.hb dL_roll_649 (by decide +kernel) ?_
  refine lv_iconst (v := nI 0) C.hx C.hb dL_roll_650 (by decide +kernel) ?_
  refine lv_iconst (v := nI 0) C.hx C.hb dL_roll_651 (by decide +kernel) ?_
  refine q_cA (L := S17) (L' := S17) (r := -7000003) (c2 := 1570) (s2 := 9997) (As := [.int (nI 13), .int (nI 1), .int (nI 0), .int (nI 0), .int (nI 0)]) C hs hP hD hS (cx_split C.htr 1 (nI 0) (nI 0) (nI 0) (by decide +kernel)) kl_L_102 hl rfl rfl (Nat.le_of_ble_eq_true rfl) ⟨Nat.le_of_ble_eq_true rfl, Nat.le_of_ble_eq_true rfl⟩ ⟨Nat.le_of_ble_eq_true rfl, Nat.le_of_ble_eq_true rfl⟩ ⟨Nat.le_of_ble_eq_true rfl, Nat.le_of_ble_eq_true rfl⟩ dL_roll_652 (fun g z H locs hs hP hD hS => ?_)
  refine lv_ldc (v := -7000003) C.hx C.hb C.hown (C.hT.use kk_L_96 args) dL_roll_655 ?_
  refine lv_icmp_ne (tgt := 670) C.hx C.hb dL_roll_657 (by decide) (fun c9 => absurd c9 (by decide +kernel)) (fun _ => ?_)
  exact kk g z H locs ls hs hP hD hS hl

set_option maxRecDepth 100000 in
set_option maxHeartbeats 4000000 in
theorem tr_roll_6 {p : Program} {l : Launch} {e : Env} {s : State} {m : MethodId} {args : Array Value} {below : List Frame} {meth : Method} {c : Code} {D : va_G} {cA : ClassId} {A : Nat → Prop} {ad : Nat → Nat} {Q : State → Prop} (C : lcx p l s m c cL_roll 1 D cA A) (kk : ∀ (g : Nat → Nat → Int32) (z : Nat → Nat) (H : Heap) (locs : List Loc) (ls : Array Slot), isL S21 g z → va_P D vwCl (rlW cA ad g z) H → va_D A (rlW cA ad g z) → va_S A s.heap H locs → lv_has ls 1 [(0, .ref (ad 70))] → W p l e rm_Lroll s m args below meth c H locs 2070 12997 Q (F0 m 784 ls [])) : ∀ (g : Nat → Nat → Int32) (z : Nat → Nat) (H : Heap) (locs : List Loc) (ls : Array Slot), isL S17 g z → va_P D vwCl (rlW cA ad g z) H → va_D A (rlW cA ad g z) → va_S A s.heap H locs → lv_has ls 1 [(0, .ref (ad 70))] → W p l e rm_Lroll s m args below meth c H locs 1570 9997 Q (F0 m 660 ls []) := by
  intro g z H locs ls hs hP hD hS hl
  refine lv_aload_n C.hx C.hb dL_roll_660 rfl (lv_at hl 0 rfl) ?_
  refine lv_iconst (v := nI 5) C.hx C.hb dL_roll_661 (by decide +kernel) ?_
  refine lv_bipush (v := nI 6) C.hx C.hb dL_roll_662 (by decide +kernel) ?_
  refine q_cP (L := S17) (L' := S17) (r := nI 1) (c2 := 2070) (s2 := 12997) (As := [.int (nI 5), .int (nI 6)]) C hs hP hD hS (cs_Lrefuses C.htr 5 6 (by decide +kernel)) k_L_refuses kl_L_109 hl rfl rfl (Nat.le_of_ble_eq_true rfl) ⟨Nat.le_of_ble_eq_true rfl, Nat.le_of_ble_eq_true rfl⟩ ⟨Nat.le_of_ble_eq_true rfl, Nat.le_of_ble_eq_true rfl⟩ ⟨Nat.le_of_ble_eq_true rfl, Nat.le_of_ble_eq_true rfl⟩ dL_roll_664 (fun g z H locs hs hP hD hS => ?_)
  refine lv_if_ne (tgt := 672) C.hx C.hb dL_roll_667 (by decide) (fun _ => ?_) (fun c9 => absurd c9 (by decide +kernel))
  refine lv_aload_n C.hx C.hb dL_roll_672 rfl (lv_at hl 0 rfl) ?_
  refine q_cO (L := S17) (L' := S17) (As := []) C hs hP hD hS (cs_differ 2 (by decide +kernel)) k_X5_differ kl_L_98 rfl hl rfl rfl (Nat.le_of_ble_eq_true rfl) ⟨⟨rfl, rfl⟩, Nat.le_of_ble_eq_true rfl, Nat.le_of_ble_eq_true rfl⟩ ⟨Nat.le_of_ble_eq_true rfl, Nat.le_of_ble_eq_true rfl⟩ dL_roll_673 (fun g z H locs hs hP hD hS => ?_)
  refine lv_iconst (v := nI 2) C.hx C.hb dL_roll_676 (by decide +kernel) ?_
  refine lv_icmp_ne (tgt := 1055) C.hx C.hb dL_roll_677 (by decide) (fun c9 => absurd c9 (by decide +kernel)) (fun _ => ?_)
  refine lv_aload_n C.hx C.hb dL_roll_680 rfl (lv_at hl 0 rfl) ?_
  refine lv_iconst (v := nI 0) C.hx C.hb dL_roll_681 (by decide +kernel) ?_
  refine lv_bipush (v := nI 7) C.hx C.hb dL_roll_682 (by decide +kernel) ?_
  refine q_cO (L := S17) (L' := S18) (As := [.int (nI 0), .int (nI 7)]) C hs hP hD hS (cs_rival S18 0 (nI 7) (-1) (by decide +kernel)) k_X5_rival kl_L_85 rfl hl rfl rfl (Nat.le_of_ble_eq_true rfl) ⟨⟨rfl, rfl⟩, Nat.le_of_ble_eq_true rfl, Nat.le_of_ble_eq_true rfl⟩ ⟨Nat.le_of_ble_eq_true rfl, Nat.le_of_ble_eq_true rfl⟩ dL_roll_684 (fun g z H locs hs hP hD hS => ?_)
  refine lv_iconst (v := -1) C.hx C.hb dL_roll_687 (by decide +kernel) ?_
  refine lv_icmp_ne (tgt := 1055) C.hx C.hb dL_roll_688 (by decide) (fun c9 => absurd c9 (by decide +kernel)) (fun _ => ?_)
  refine lv_aload_n C.hx C.hb dL_roll_691 rfl (lv_at hl 0 rfl) ?_
  refine lv_iconst (v := nI 2) C.hx C.hb dL_roll_692 (by decide +kernel) ?_
  refine lv_bipush (v := nI 7) C.hx C.hb dL_roll_693 (by decide +kernel) ?_
  refine q_cO (L := S18) (L' := S19) (As := [.int (nI 2), .int (nI 7)]) C hs hP hD hS (cs_rival S19 2 (nI 7) (-1) (by decide +kernel)) k_X5_rival kl_L_85 rfl hl rfl rfl (Nat.le_of_ble_eq_true rfl) ⟨⟨rfl, rfl⟩, Nat.le_of_ble_eq_true rfl, Nat.le_of_ble_eq_true rfl⟩ ⟨Nat.le_of_ble_eq_true rfl, Nat.le_of_ble_eq_true rfl⟩ dL_roll_695 (fun g z H locs hs hP hD hS => ?_)
  refine lv_iconst (v := -1) C.hx C.hb dL_roll_698 (by decide +kernel) ?_
  refine lv_icmp_ne (tgt := 1055) C.hx C.hb dL_roll_699 (by decide) (fun c9 => absurd c9 (by decide +kernel)) (fun _ => ?_)
  refine lv_aload_n C.hx C.hb dL_roll_702 rfl (lv_at hl 0 rfl) ?_
  refine q_cO (L := S19) (L' := S19) (As := []) C hs hP hD hS (cs_differ 1 (by decide +kernel)) k_X5_differ kl_L_98 rfl hl rfl rfl (Nat.le_of_ble_eq_true rfl) ⟨⟨rfl, rfl⟩, Nat.le_of_ble_eq_true rfl, Nat.le_of_ble_eq_true rfl⟩ ⟨Nat.le_of_ble_eq_true rfl, Nat.le_of_ble_eq_true rfl⟩ dL_roll_703 (fun g z H locs hs hP hD hS => ?_)
  refine lv_iconst (v := nI 1) C.hx C.hb dL_roll_706 (by decide +kernel) ?_
  refine lv_icmp_ne (tgt := 1055) C.hx C.hb dL_roll_707 (by decide) (fun c9 => absurd c9 (by decide +kernel)) (fun _ => ?_)
  refine lv_aload_n C.hx C.hb dL_roll_710 rfl (lv_at hl 0 rfl) ?_
  refine lv_iconst (v := nI 1) C.hx C.hb dL_roll_711 (by decide +kernel) ?_
  refine lv_bipush (v := nI 7) C.hx C.hb dL_roll_712 (by decide +kernel) ?_
  refine q_cO (L := S19) (L' := S20) (As := [.int (nI 1), .int (nI 7)]) C hs hP hD hS (cs_rival S20 1 (nI 7) (-1) (by decide +kernel)) k_X5_rival kl_L_85 rfl hl rfl rfl (Nat.le_of_ble_eq_true rfl) ⟨⟨rfl, rfl⟩, Nat.le_of_ble_eq_true rfl, Nat.le_of_ble_eq_true rfl⟩ ⟨Nat.le_of_ble_eq_true rfl, Nat.le_of_ble_eq_true rfl⟩ dL_roll_714 (fun g z H locs hs hP hD hS => ?_)
  refine lv_iconst (v := -1) C.hx C.hb dL_roll_717 (by decide +kernel) ?_
  refine lv_icmp_ne (tgt := 1055) C.hx C.hb dL_roll_718 (by decide) (fun c9 => absurd c9 (by decide +kernel)) (fun _ => ?_)
  refine lv_aload_n C.hx C.hb dL_roll_721 rfl (lv_at hl 0 rfl) ?_
  refine q_cO (L := S20) (L' := S20) (As := []) C hs hP hD hS (cs_differ 3 (by decide +kernel)) k_X5_differ kl_L_98 rfl hl rfl rfl (Nat.le_of_ble_eq_true rfl) ⟨⟨rfl, rfl⟩, Nat.le_of_ble_eq_true rfl, Nat.le_of_ble_eq_true rfl⟩ ⟨Nat.le_of_ble_eq_true rfl, Nat.le_of_ble_eq_true rfl⟩ dL_roll_722 (fun g z H locs hs hP hD hS => ?_)
  refine lv_iconst (v := nI 3) C.hx C.hb dL_roll_725 (by decide +kernel) ?_
  refine lv_icmp_ne (tgt := 1055) C.hx C.hb dL_roll_726 (by decide) (fun c9 => absurd c9 (by decide +kernel)) (fun _ => ?_)
  refine lv_aload_n C.hx C.hb dL_roll_729 rfl (lv_at hl 0 rfl) ?_
  refine lv_iconst (v := nI 1) C.hx C.hb dL_roll_730 (by decide +kernel) ?_
  refine lv_iconst (v := -1) C.hx C.hb dL_roll_731 (by decide +kernel) ?_
  refine q_cO (L := S20) (L' := S19) (As := [.int (nI 1), .int (-1)]) C hs hP hD hS (cs_rival S19 1 (-1) (nI 7) (by decide +kernel)) k_X5_rival kl_L_85 rfl hl rfl rfl (Nat.le_of_ble_eq_true rfl) ⟨⟨rfl, rfl⟩, Nat.le_of_ble_eq_true rfl, Nat.le_of_ble_eq_true rfl⟩ ⟨Nat.le_of_ble_eq_true rfl, Nat.le_of_ble_eq_true rfl⟩ dL_roll_732 (fun g z H locs hs hP hD hS => ?_)
  refine lv_bipush (v := nI 7) C.hx C.hb dL_roll_735 (by decide +kernel) ?_
  refine lv_icmp_ne (tgt := 1055) C.hx C.hb dL_roll_737 (by decide) (fun c9 => absurd c9 (by decide +kernel)) (fun _ => ?_)
  refine lv_aload_n C.hx C.hb dL_roll_740 rfl (lv_at hl 0 rfl) ?_
  refine q_cO (L := S19) (L' := S19) (As := []) C hs hP hD hS (cs_differ 1 (by decide +kernel)) k_X5_differ kl_L_98 rfl hl rfl rfl (Nat.le_of_ble_eq_true rfl) ⟨⟨rfl, rfl⟩, Nat.le_of_ble_eq_true rfl, Nat.le_of_ble_eq_true rfl⟩ ⟨Nat.le_of_ble_eq_true rfl, Nat.le_of_ble_eq_true rfl⟩ dL_roll_741 (fun g z H locs hs hP hD hS => ?_)
  refine lv_iconst (v := nI 1) C.hx C.hb dL_roll_744 (by decide +kernel) ?_
  refine lv_icmp_ne (tgt := 1055) C.hx C.hb dL_roll_745 (by decide) (fun c9 => absurd c9 (by decide +kernel)) (fun _ => ?_)
  refine lv_aload_n C.hx C.hb dL_roll_748 rfl (lv_at hl 0 rfl) ?_
  refine lv_iconst (v := nI 0) C.hx C.hb dL_roll_749 (by decide +kernel) ?_
  refine lv_iconst (v := nI 0) C.hx C.hb dL_roll_750 (by decide +kernel) ?_
  refine lv_sipush (v := nI 999) C.hx C.hb dL_roll_751 (by decide +kernel) ?_
  refine q_cP (L := S19) (L' := S19) (r := nI 1) (c2 := 2070) (s2 := 12997) (As := [.int (nI 0), .int (nI 0), .int (nI 999)]) C hs hP hD hS (cs_Lyears C.htr 0 0 999 (by decide +kernel)) k_L_years kl_L_118 hl rfl rfl (Nat.le_of_ble_eq_true rfl) ⟨Nat.le_of_ble_eq_true rfl, Nat.le_of_ble_eq_true rfl⟩ ⟨Nat.le_of_ble_eq_true rfl, Nat.le_of_ble_eq_true rfl⟩ ⟨Nat.le_of_ble_eq_true rfl, Nat.le_of_ble_eq_true rfl⟩ dL_roll_754 (fun g z H locs hs hP hD hS => ?_)
  refine lv_if_eq (tgt := 1055) C.hx C.hb dL_roll_757 (by decide) (fun c9 => absurd c9 (by decide +kernel)) (fun _ => ?_)
  refine lv_aload_n C.hx C.hb dL_roll_760 rfl (lv_at hl 0 rfl) ?_
  refine lv_iconst (v := nI 0) C.hx C.hb dL_roll_761 (by decide +kernel) ?_
  refine lv_iconst (v := nI 2) C.hx C.hb dL_roll_762 (by decide +kernel) ?_
  refine lv_bipush (v := nI 10) C.hx C.hb dL_roll_763 (by decide +kernel) ?_
  refine q_cO (L := S19) (L' := S21) (As := [.int (nI 0), .int (nI 2), .int (nI 10)]) C hs hP hD hS (cs_ahead S21 0 2 (nI 10) 1 (by decide +kernel)) k_X5_ahead kl_L_21 rfl hl rfl rfl (Nat.le_of_ble_eq_true rfl) ⟨⟨rfl, rfl⟩, Nat.le_of_ble_eq_true rfl, Nat.le_of_ble_eq_true rfl⟩ ⟨Nat.le_of_ble_eq_true rfl, Nat.le_of_ble_eq_true rfl⟩ dL_roll_765 (fun g z H locs hs hP hD hS => ?_)
  refine lv_iconst (v := nI 1) C.hx C.hb dL_roll_768 (by decide +kernel) ?_
  refine lv_icmp_ne (tgt := 1055) C.hx C.hb dL_roll_769 (by decide) (fun c9 => absurd c9 (by decide +kernel)) (fun _ => ?_)
  refine lv_aload_n C.hx C.hb dL_roll_772 rfl (lv_at hl 0 rfl) ?_
  refine lv_iconst (v := nI 0) C.hx C.hb dL_roll_773 (by decide +kernel) ?_
  refine lv_iconst (v := nI 0) C.hx C.hb dL_roll_774 (by decide +kernel) ?_
  refine lv_sipush (v := nI 490) C.hx C.hb dL_roll_775 (by decide +kernel) ?_
  refine q_cP (L := S21) (L' := S21) (r := nI 1) (c2 := 2070) (s2 := 12997) (As := [.int (nI 0), .int (nI 0), .int (nI 490)]) C hs hP hD hS (cs_Lyears C.htr 0 0 490 (by decide +kernel)) k_L_years kl_L_118 hl rfl rfl (Nat.le_of_ble_eq_true rfl) ⟨Nat.le_of_ble_eq_true rfl, Nat.le_of_ble_eq_true rfl⟩ ⟨Nat.le_of_ble_eq_true rfl, Nat.le_of_ble_eq_true rfl⟩ ⟨Nat.le_of_ble_eq_true rfl, Nat.le_of_ble_eq_true rfl⟩ dL_roll_778 (fun g z H locs hs hP hD hS => ?_)
  refine lv_if_eq (tgt := 1055) C.hx C.hb dL_roll_781 (by decide) (fun c9 => absurd c9 (by decide +kernel)) (fun _ => ?_)
  exact kk g z H locs ls hs hP hD hS hl

set_option maxRecDepth 100000 in
set_option maxHeartbeats 4000000 in
theorem tr_roll_7 {p : Program} {l : Launch} {e : Env} {s : State} {m : MethodId} {args : Array Value} {below : List Frame} {meth : Method} {c : Code} {D : va_G} {cA : ClassId} {A : Nat → Prop} {ad : Nat → Nat} {Q : State → Prop} (C : lcx p l s m c cL_roll 1 D cA A) (kk : ∀ (g : Nat → Nat → Int32) (z : Nat → Nat) (H : Heap) (locs : List Loc) (ls : Array Slot), isL S24 g z → va_P D vwCl (rlW cA ad g z) H → va_D A (rlW cA ad g z) → va_S A s.heap H locs → lv_has ls 1 [(0, .ref (ad 70))] → W p l e rm_Lroll s m args below meth c H locs 2071 13003 Q (F0 m 907 ls [])) : ∀ (g : Nat → Nat → Int32) (z : Nat → Nat) (H : Heap) (locs : List Loc) (ls : Array Slot), isL S21 g z → va_P D vwCl (rlW cA ad g z) H → va_D A (rlW cA ad g z) → va_S A s.heap H locs → lv_has ls 1 [(0, .ref (ad 70))] → W p l e rm_Lroll s m args below meth c H locs 2070 12997 Q (F0 m 784 ls []) := by
  intro g z H locs ls hs hP hD hS hl
  refine lv_aload_n C.hx C.hb dL_roll_784 rfl (lv_at hl 0 rfl) ?_
  refine lv_iconst (v := nI 2) C.hx C.hb dL_roll_785 (by decide +kernel) ?_
  refine lv_iconst (v := nI 4) C.hx C.hb dL_roll_786 (by decide +kernel) ?_
  refine lv_bipush (v := -50) C.hx C.hb dL_roll_787 (by decide +kernel) ?_
  refine q_cO (L := S21) (L' := S22) (As := [.int (nI 2), .int (nI 4), .int (-50)]) C hs hP hD hS (cs_ahead S22 2 4 (-50) 1 (by decide +kernel)) k_X5_ahead kl_L_21 rfl hl rfl rfl (Nat.le_of_ble_eq_true rfl) ⟨⟨rfl, rfl⟩, Nat.le_of_ble_eq_true rfl, Nat.le_of_ble_eq_true rfl⟩ ⟨Nat.le_of_ble_eq_true rfl, Nat.le_of_ble_eq_true rfl⟩ dL_roll_789 (fun g z H locs hs hP hD hS => ?_)
  refine lv_iconst (v := nI 1) C.hx C.hb dL_roll_792 (by decide +kernel) ?_
  refine lv_icmp_ne (tgt := 1055) C.hx C.hb dL_roll_793 (by decide) (fun c9 => absurd c9 (by decide +kernel)) (fun _ => ?_)
  refine lv_aload_n C.hx C.hb dL_roll_796 rfl (lv_at hl 0 rfl) ?_
  refine lv_iconst (v := nI 4) C.hx C.hb dL_roll_797 (by decide +kernel) ?_
  refine lv_sipush (v := nI 450) C.hx C.hb dL_roll_798 (by decide +kernel) ?_
  refine lv_sipush (v := nI 999) C.hx C.hb dL_roll_801 (by decide +kernel) ?_
  refine q_cP (L := S22) (L' := S22) (r := nI 1) (c2 := 2070) (s2 := 12997) (As := [.int (nI 4), .int (nI 450), .int (nI 999)]) C hs hP hD hS (cs_Lyears C.htr 4 450 999 (by decide +kernel)) k_L_years kl_L_118 hl rfl rfl (Nat.le_of_ble_eq_true rfl) ⟨Nat.le_of_ble_eq_true rfl, Nat.le_of_ble_eq_true rfl⟩ ⟨Nat.le_of_ble_eq_true rfl, Nat.le_of_ble_eq_true rfl⟩ ⟨Nat.le_of_ble_eq_true rfl, Nat.le_of_ble_eq_true rfl⟩ dL_roll_804 (fun g z H locs hs hP hD hS => ?_)
  refine lv_if_eq (tgt := 1055) C.hx C.hb dL_roll_807 (by decide) (fun c9 => absurd c9 (by decide +kernel)) (fun _ => ?_)
  refine lv_aload_n C.hx C.hb dL_roll_810 rfl (lv_at hl 0 rfl) ?_
  refine lv_iconst (v := nI 3) C.hx C.hb dL_roll_811 (by decide +kernel) ?_
  refine lv_iconst (v := nI 4) C.hx C.hb dL_roll_812 (by decide +kernel) ?_
  refine lv_iconst (v := nI 0) C.hx C.hb dL_roll_813 (by decide +kernel) ?_
  refine lv_bipush (v := nI 41) C.hx C.hb dL_roll_814 (by decide +kernel) ?_
  refine lv_iconst (v := nI 0) C.hx C.hb dL_roll_816 (by decide +kernel) ?_
  refine q_cA (L := S22) (L' := S23) (r := -7000003) (c2 := 2071) (s2 := 13003) (As := [.int (nI 3), .int (nI 4), .int (nI 0), .int (nI 41), .int (nI 0)]) C hs hP hD hS (cx_ahead C.htr S23 4 0 (nI 41) (nI 0) (by decide +kernel)) kl_L_102 hl rfl rfl (Nat.le_of_ble_eq_true rfl) ⟨Nat.le_of_ble_eq_true rfl, Nat.le_of_ble_eq_true rfl⟩ ⟨Nat.le_of_ble_eq_true rfl, Nat.le_of_ble_eq_true rfl⟩ ⟨Nat.le_of_ble_eq_true rfl, Nat.le_of_ble_eq_true rfl⟩ dL_roll_817 (fun g z H locs hs hP hD hS => ?_)
  refine lv_ldc (v := -7000003) C.hx C.hb C.hown (C.hT.use kk_L_96 args) dL_roll_820 ?_
  refine lv_icmp_ne (tgt := 1055) C.hx C.hb dL_roll_822 (by decide) (fun c9 => absurd c9 (by decide +kernel)) (fun _ => ?_)
  refine lv_aload_n C.hx C.hb dL_roll_825 rfl (lv_at hl 0 rfl) ?_
  refine lv_iconst (v := nI 0) C.hx C.hb dL_roll_826 (by decide +kernel) ?_
  refine lv_iconst (v := nI 0) C.hx C.hb dL_roll_827 (by decide +kernel) ?_
  refine lv_sipush (v := nI 490) C.hx C.hb dL_roll_828 (by decide +kernel) ?_
  refine q_cP (L := S23) (L' := S23) (r := nI 1) (c2 := 2071) (s2 := 13003) (As := [.int (nI 0), .int (nI 0), .int (nI 490)]) C hs hP hD hS (cs_Lyears C.htr 0 0 490 (by decide +kernel)) k_L_years kl_L_118 hl rfl rfl (Nat.le_of_ble_eq_true rfl) ⟨Nat.le_of_ble_eq_true rfl, Nat.le_of_ble_eq_true rfl⟩ ⟨Nat.le_of_ble_eq_true rfl, Nat.le_of_ble_eq_true rfl⟩ ⟨Nat.le_of_ble_eq_true rfl, Nat.le_of_ble_eq_true rfl⟩ dL_roll_831 (fun g z H locs hs hP hD hS => ?_)
  refine lv_if_eq (tgt := 1055) C.hx C.hb dL_roll_834 (by decide) (fun c9 => absurd c9 (by decide +kernel)) (fun _ => ?_)
  refine lv_aload_n C.hx C.hb dL_roll_837 rfl (lv_at hl 0 rfl) ?_
  refine lv_iconst (v := nI 4) C.hx C.hb dL_roll_838 (by decide +kernel) ?_
  refine lv_iconst (v := nI 0) C.hx C.hb dL_roll_839 (by decide +kernel) ?_
  refine lv_bipush (v := nI 20) C.hx C.hb dL_roll_840 (by decide +kernel) ?_
  refine q_cO (L := S23) (L' := S24) (As := [.int (nI 4), .int (nI 0), .int (nI 20)]) C hs hP hD hS (cs_ahead S24 4 0 (nI 20) 2 (by decide +kernel)) k_X5_ahead kl_L_21 rfl hl rfl rfl (Nat.le_of_ble_eq_true rfl) ⟨⟨rfl, rfl⟩, Nat.le_of_ble_eq_true rfl, Nat.le_of_ble_eq_true rfl⟩ ⟨Nat.le_of_ble_eq_true rfl, Nat.le_of_ble_eq_true rfl⟩ dL_roll_842 (fun g z H locs hs hP hD hS => ?_)
  refine lv_iconst (v := nI 2) C.hx C.hb dL_roll_845 (by decide +kernel) ?_
  refine lv_icmp_ne (tgt := 1055) C.hx C.hb dL_roll_846 (by decide) (fun c9 => absurd c9 (by decide +kernel)) (fun _ => ?_)
  refine lv_aload_n C.hx C.hb dL_roll_849 rfl (lv_at hl 0 rfl) ?_
  refine lv_iconst (v := nI 0) C.hx C.hb dL_roll_850 (by decide +kernel) ?_
  refine lv_sipush (v := nI 470) C.hx C.hb dL_roll_851 (by decide +kernel) ?_
  refine lv_sipush (v := nI 490) C.hx C.hb dL_roll_854 (by decide +kernel) ?_
  refine q_cP (L := S24) (L' := S24) (r := nI 1) (c2 := 2071) (s2 := 13003) (As := [.int (nI 0), .int (nI 470), .int (nI 490)]) C hs hP hD hS (cs_Lyears C.htr 0 470 490 (by decide +kernel)) k_L_years kl_L_118 hl rfl rfl (Nat.le_of_ble_eq_true rfl) ⟨Nat.le_of_ble_eq_true rfl, Nat.le_of_ble_eq_true rfl⟩ ⟨Nat.le_of_ble_eq_true rfl, Nat.le_of_ble_eq_true rfl⟩ ⟨Nat.le_of_ble_eq_true rfl, Nat.le_of_ble_eq_true rfl⟩ dL_roll_857 (fun g z H locs hs hP hD hS => ?_)
  refine lv_if_eq (tgt := 1055) C.hx C.hb dL_roll_860 (by decide) (fun c9 => absurd c9 (by decide +kernel)) (fun _ => ?_)
  refine lv_aload_n C.hx C.hb dL_roll_863 rfl (lv_at hl 0 rfl) ?_
  refine lv_iconst (v := nI 4) C.hx C.hb dL_roll_864 (by decide +kernel) ?_
  refine lv_sipush (v := nI 450) C.hx C.hb dL_roll_865 (by decide +kernel) ?_
  refine lv_sipush (v := nI 470) C.hx C.hb dL_roll_868 (by decide +kernel) ?_
  refine q_cP (L := S24) (L' := S24) (r := nI 1) (c2 := 2071) (s2 := 13003) (As := [.int (nI 4), .int (nI 450), .int (nI 470)]) C hs hP hD hS (cs_Lyears C.htr 4 450 470 (by decide +kernel)) k_L_years kl_L_118 hl rfl rfl (Nat.le_of_ble_eq_true rfl) ⟨Nat.le_of_ble_eq_true rfl, Nat.le_of_ble_eq_true rfl⟩ ⟨Nat.le_of_ble_eq_true rfl, Nat.le_of_ble_eq_true rfl⟩ ⟨Nat.le_of_ble_eq_true rfl, Nat.le_of_ble_eq_true rfl⟩ dL_roll_871 (fun g z H locs hs hP hD hS => ?_)
  refine lv_if_eq (tgt := 1055) C.hx C.hb dL_roll_874 (by decide) (fun c9 => absurd c9 (by decide +kernel)) (fun _ => ?_)
  refine lv_aload_n C.hx C.hb dL_roll_877 rfl (lv_at hl 0 rfl) ?_
  refine lv_iconst (v := nI 4) C.hx C.hb dL_roll_878 (by decide +kernel) ?_
  refine lv_sipush (v := nI 460) C.hx C.hb dL_roll_879 (by decide +kernel) ?_
  refine lv_sipush (v := nI 999) C.hx C.hb dL_roll_882 (by decide +kernel) ?_
  refine q_cO (L := S24) (L' := S24) (As := [.int (nI 4), .int (nI 460), .int (nI 999)]) C hs hP hD hS (cs_wouldMove 4 (nI 460) (nI 999) (nI 2) (by decide +kernel)) k_X5_wouldMove kl_L_28 rfl hl rfl rfl (Nat.le_of_ble_eq_true rfl) ⟨⟨rfl, rfl⟩, Nat.le_of_ble_eq_true rfl, Nat.le_of_ble_eq_true rfl⟩ ⟨Nat.le_of_ble_eq_true rfl, Nat.le_of_ble_eq_true rfl⟩ dL_roll_885 (fun g z H locs hs hP hD hS => ?_)
  refine lv_iconst (v := nI 2) C.hx C.hb dL_roll_888 (by decide +kernel) ?_
  refine lv_icmp_ne (tgt := 1055) C.hx C.hb dL_roll_889 (by decide) (fun c9 => absurd c9 (by decide +kernel)) (fun _ => ?_)
  refine lv_aload_n C.hx C.hb dL_roll_892 rfl (lv_at hl 0 rfl) ?_
  refine lv_iconst (v := nI 4) C.hx C.hb dL_roll_893 (by decide +kernel) ?_
  refine lv_sipush (v := nI 471) C.hx C.hb dL_roll_894 (by decide +kernel) ?_
  refine lv_sipush (v := nI 999) C.hx C.hb dL_roll_897 (by decide +kernel) ?_
  refine q_cO (L := S24) (L' := S24) (As := [.int (nI 4), .int (nI 471), .int (nI 999)]) C hs hP hD hS (cs_wouldMove 4 (nI 471) (nI 999) (-1) (by decide +kernel)) k_X5_wouldMove kl_L_28 rfl hl rfl rfl (Nat.le_of_ble_eq_true rfl) ⟨⟨rfl, rfl⟩, Nat.le_of_ble_eq_true rfl, Nat.le_of_ble_eq_true rfl⟩ ⟨Nat.le_of_ble_eq_true rfl, Nat.le_of_ble_eq_true rfl⟩ dL_roll_900 (fun g z H locs hs hP hD hS => ?_)
  refine lv_iconst (v := -1) C.hx C.hb dL_roll_903 (by decide +kernel) ?_
  refine lv_icmp_ne (tgt := 1055) C.hx C.hb dL_roll_904 (by decide) (fun c9 => absurd c9 (by decide +kernel)) (fun _ => ?_)
  exact kk g z H locs ls hs hP hD hS hl

set_option maxRecDepth 100000 in
set_option maxHeartbeats 4000000 in
theorem tr_roll_8 {p : Program} {l : Launch} {e : Env} {s : State} {m : MethodId} {args : Array Value} {below : List Frame} {meth : Method} {c : Code} {D : va_G} {cA : ClassId} {A : Nat → Prop} {ad : Nat → Nat} {Q : State → Prop} (C : lcx p l s m c cL_roll 1 D cA A) (kk : ∀ (g : Nat → Nat → Int32) (z : Nat → Nat) (H : Heap) (locs : List Loc) (ls : Array Slot), isL S26 g z → va_P D vwCl (rlW cA ad g z) H → va_D A (rlW cA ad g z) → va_S A s.heap H locs → lv_has ls 1 [(0, .ref (ad 70))] → W p l e rm_Lroll s m args below meth c H locs 2072 13009 Q (F0 m 1045 ls [])) : ∀ (g : Nat → Nat → Int32) (z : Nat → Nat) (H : Heap) (locs : List Loc) (ls : Array Slot), isL S24 g z → va_P D vwCl (rlW cA ad g z) H → va_D A (rlW cA ad g z) → va_S A s.heap H locs → lv_has ls 1 [(0, .ref (ad 70))] → W p l e rm_Lroll s m args below meth c H locs 2071 13003 Q (F0 m 907 ls []) := by
  intro g z H locs ls hs hP hD hS hl
  refine lv_aload_n C.hx C.hb dL_roll_907 rfl (lv_at hl 0 rfl) ?_
  refine lv_iconst (v := nI 4) C.hx C.hb dL_roll_908 (by decide +kernel) ?_
  refine lv_sipush (v := nI 450) C.hx C.hb dL_roll_909 (by decide +kernel) ?_
  refine lv_sipush (v := nI 470) C.hx C.hb dL_roll_912 (by decide +kernel) ?_
  refine q_cP (L := S24) (L' := S24) (r := nI 1) (c2 := 2071) (s2 := 13003) (As := [.int (nI 4), .int (nI 450), .int (nI 470)]) C hs hP hD hS (cs_Lyears C.htr 4 450 470 (by decide +kernel)) k_L_years kl_L_118 hl rfl rfl (Nat.le_of_ble_eq_true rfl) ⟨Nat.le_of_ble_eq_true rfl, Nat.le_of_ble_eq_true rfl⟩ ⟨Nat.le_of_ble_eq_true rfl, Nat.le_of_ble_eq_true rfl⟩ ⟨Nat.le_of_ble_eq_true rfl, Nat.le_of_ble_eq_true rfl⟩ dL_roll_915 (fun g z H locs hs hP hD hS => ?_)
  refine lv_if_eq (tgt := 1055) C.hx C.hb dL_roll_918 (by decide) (fun c9 => absurd c9 (by decide +kernel)) (fun _ => ?_)
  refine lv_aload_n C.hx C.hb dL_roll_921 rfl (lv_at hl 0 rfl) ?_
  refine lv_iconst (v := nI 4) C.hx C.hb dL_roll_922 (by decide +kernel) ?_
  refine lv_sipush (v := nI 460) C.hx C.hb dL_roll_923 (by decide +kernel) ?_
  refine lv_sipush (v := nI 465) C.hx C.hb dL_roll_926 (by decide +kernel) ?_
  refine q_cO (L := S24) (L' := S25) (As := [.int (nI 4), .int (nI 460), .int (nI 465)]) C hs hP hD hS (cs_find S25 4 (nI 460) (nI 465) 2 (by decide +kernel)) k_X5_find kl_L_25 rfl hl rfl rfl (Nat.le_of_ble_eq_true rfl) ⟨⟨rfl, rfl⟩, Nat.le_of_ble_eq_true rfl, Nat.le_of_ble_eq_true rfl⟩ ⟨Nat.le_of_ble_eq_true rfl, Nat.le_of_ble_eq_true rfl⟩ dL_roll_929 (fun g z H locs hs hP hD hS => ?_)
  refine lv_iconst (v := nI 2) C.hx C.hb dL_roll_932 (by decide +kernel) ?_
  refine lv_icmp_ne (tgt := 1055) C.hx C.hb dL_roll_933 (by decide) (fun c9 => absurd c9 (by decide +kernel)) (fun _ => ?_)
  refine lv_aload_n C.hx C.hb dL_roll_936 rfl (lv_at hl 0 rfl) ?_
  refine lv_iconst (v := nI 0) C.hx C.hb dL_roll_937 (by decide +kernel) ?_
  refine lv_sipush (v := nI 480) C.hx C.hb dL_roll_938 (by decide +kernel) ?_
  refine lv_sipush (v := nI 490) C.hx C.hb dL_roll_941 (by decide +kernel) ?_
  refine q_cP (L := S25) (L' := S25) (r := nI 1) (c2 := 2071) (s2 := 13003) (As := [.int (nI 0), .int (nI 480), .int (nI 490)]) C hs hP hD hS (cs_Lyears C.htr 0 480 490 (by decide +kernel)) k_L_years kl_L_118 hl rfl rfl (Nat.le_of_ble_eq_true rfl) ⟨Nat.le_of_ble_eq_true rfl, Nat.le_of_ble_eq_true rfl⟩ ⟨Nat.le_of_ble_eq_true rfl, Nat.le_of_ble_eq_true rfl⟩ ⟨Nat.le_of_ble_eq_true rfl, Nat.le_of_ble_eq_true rfl⟩ dL_roll_944 (fun g z H locs hs hP hD hS => ?_)
  refine lv_if_eq (tgt := 1055) C.hx C.hb dL_roll_947 (by decide) (fun c9 => absurd c9 (by decide +kernel)) (fun _ => ?_)
  refine lv_aload_n C.hx C.hb dL_roll_950 rfl (lv_at hl 0 rfl) ?_
  refine lv_iconst (v := nI 4) C.hx C.hb dL_roll_951 (by decide +kernel) ?_
  refine lv_sipush (v := nI 460) C.hx C.hb dL_roll_952 (by decide +kernel) ?_
  refine lv_sipush (v := nI 465) C.hx C.hb dL_roll_955 (by decide +kernel) ?_
  refine q_cP (L := S25) (L' := S25) (r := nI 1) (c2 := 2071) (s2 := 13003) (As := [.int (nI 4), .int (nI 460), .int (nI 465)]) C hs hP hD hS (cs_Lyears C.htr 4 460 465 (by decide +kernel)) k_L_years kl_L_118 hl rfl rfl (Nat.le_of_ble_eq_true rfl) ⟨Nat.le_of_ble_eq_true rfl, Nat.le_of_ble_eq_true rfl⟩ ⟨Nat.le_of_ble_eq_true rfl, Nat.le_of_ble_eq_true rfl⟩ ⟨Nat.le_of_ble_eq_true rfl, Nat.le_of_ble_eq_true rfl⟩ dL_roll_958 (fun g z H locs hs hP hD hS => ?_)
  refine lv_if_eq (tgt := 1055) C.hx C.hb dL_roll_961 (by decide) (fun c9 => absurd c9 (by decide +kernel)) (fun _ => ?_)
  refine lv_aload_n C.hx C.hb dL_roll_964 rfl (lv_at hl 0 rfl) ?_
  refine lv_iconst (v := nI 3) C.hx C.hb dL_roll_965 (by decide +kernel) ?_
  refine lv_iconst (v := nI 0) C.hx C.hb dL_roll_966 (by decide +kernel) ?_
  refine lv_sipush (v := nI 999) C.hx C.hb dL_roll_967 (by decide +kernel) ?_
  refine q_cO (L := S25) (L' := S25) (As := [.int (nI 3), .int (nI 0), .int (nI 999)]) C hs hP hD hS (cs_wouldMove 3 (nI 0) (nI 999) (nI 0) (by decide +kernel)) k_X5_wouldMove kl_L_28 rfl hl rfl rfl (Nat.le_of_ble_eq_true rfl) ⟨⟨rfl, rfl⟩, Nat.le_of_ble_eq_true rfl, Nat.le_of_ble_eq_true rfl⟩ ⟨Nat.le_of_ble_eq_true rfl, Nat.le_of_ble_eq_true rfl⟩ dL_roll_970 (fun g z H locs hs hP hD hS => ?_)
  refine lv_if_ne (tgt := 1055) C.hx C.hb dL_roll_973 (by decide) (fun c9 => absurd c9 (by decide +kernel)) (fun _ => ?_)
  refine lv_aload_n C.hx C.hb dL_roll_976 rfl (lv_at hl 0 rfl) ?_
  refine lv_iconst (v := nI 4) C.hx C.hb dL_roll_977 (by decide +kernel) ?_
  refine lv_iconst (v := nI 0) C.hx C.hb dL_roll_978 (by decide +kernel) ?_
  refine lv_iconst (v := nI 0) C.hx C.hb dL_roll_979 (by decide +kernel) ?_
  refine lv_sipush (v := nI 479) C.hx C.hb dL_roll_980 (by decide +kernel) ?_
  refine lv_iconst (v := nI 0) C.hx C.hb dL_roll_983 (by decide +kernel) ?_
  refine q_cA (L := S25) (L' := S25) (r := -7000003) (c2 := 2072) (s2 := 13009) (As := [.int (nI 4), .int (nI 0), .int (nI 0), .int (nI 479), .int (nI 0)]) C hs hP hD hS (cx_find C.htr 0 (nI 0) (nI 479) (nI 0) (by decide +kernel)) kl_L_102 hl rfl rfl (Nat.le_of_ble_eq_true rfl) ⟨Nat.le_of_ble_eq_true rfl, Nat.le_of_ble_eq_true rfl⟩ ⟨Nat.le_of_ble_eq_true rfl, Nat.le_of_ble_eq_true rfl⟩ ⟨Nat.le_of_ble_eq_true rfl, Nat.le_of_ble_eq_true rfl⟩ dL_roll_984 (fun g z H locs hs hP hD hS => ?_)
  refine lv_ldc (v := -7000003) C.hx C.hb C.hown (C.hT.use kk_L_96 args) dL_roll_987 ?_
  refine lv_icmp_ne (tgt := 1055) C.hx C.hb dL_roll_989 (by decide) (fun c9 => absurd c9 (by decide +kernel)) (fun _ => ?_)
  refine lv_aload_n C.hx C.hb dL_roll_992 rfl (lv_at hl 0 rfl) ?_
  refine lv_iconst (v := nI 0) C.hx C.hb dL_roll_993 (by decide +kernel) ?_
  refine lv_sipush (v := nI 485) C.hx C.hb dL_roll_994 (by decide +kernel) ?_
  refine lv_sipush (v := nI 999) C.hx C.hb dL_roll_997 (by decide +kernel) ?_
  refine q_cO (L := S25) (L' := S26) (As := [.int (nI 0), .int (nI 485), .int (nI 999)]) C hs hP hD hS (cs_find S26 0 (nI 485) (nI 999) 1 (by decide +kernel)) k_X5_find kl_L_25 rfl hl rfl rfl (Nat.le_of_ble_eq_true rfl) ⟨⟨rfl, rfl⟩, Nat.le_of_ble_eq_true rfl, Nat.le_of_ble_eq_true rfl⟩ ⟨Nat.le_of_ble_eq_true rfl, Nat.le_of_ble_eq_true rfl⟩ dL_roll_1000 (fun g z H locs hs hP hD hS => ?_)
  refine lv_iconst (v := nI 1) C.hx C.hb dL_roll_1003 (by decide +kernel) ?_
  refine lv_icmp_ne (tgt := 1055) C.hx C.hb dL_roll_1004 (by decide) (fun c9 => absurd c9 (by decide +kernel)) (fun _ => ?_)
  refine lv_aload_n C.hx C.hb dL_roll_1007 rfl (lv_at hl 0 rfl) ?_
  refine lv_iconst (v := nI 0) C.hx C.hb dL_roll_1008 (by decide +kernel) ?_
  refine lv_sipush (v := nI 485) C.hx C.hb dL_roll_1009 (by decide +kernel) ?_
  refine lv_sipush (v := nI 490) C.hx C.hb dL_roll_1012 (by decide +kernel) ?_
  refine q_cP (L := S26) (L' := S26) (r := nI 1) (c2 := 2072) (s2 := 13009) (As := [.int (nI 0), .int (nI 485), .int (nI 490)]) C hs hP hD hS (cs_Lyears C.htr 0 485 490 (by decide +kernel)) k_L_years kl_L_118 hl rfl rfl (Nat.le_of_ble_eq_true rfl) ⟨Nat.le_of_ble_eq_true rfl, Nat.le_of_ble_eq_true rfl⟩ ⟨Nat.le_of_ble_eq_true rfl, Nat.le_of_ble_eq_true rfl⟩ ⟨Nat.le_of_ble_eq_true rfl, Nat.le_of_ble_eq_true rfl⟩ dL_roll_1015 (fun g z H locs hs hP hD hS => ?_)
  refine lv_if_eq (tgt := 1055) C.hx C.hb dL_roll_1018 (by decide) (fun c9 => absurd c9 (by decide +kernel)) (fun _ => ?_)
  refine lv_aload_n C.hx C.hb dL_roll_1021 rfl (lv_at hl 0 rfl) ?_
  refine lv_iconst (v := nI 0) C.hx C.hb dL_roll_1022 (by decide +kernel) ?_
  refine lv_iconst (v := nI 0) C.hx C.hb dL_roll_1023 (by decide +kernel) ?_
  refine lv_sipush (v := nI 999) C.hx C.hb dL_roll_1024 (by decide +kernel) ?_
  refine q_cO (L := S26) (L' := S26) (As := [.int (nI 0), .int (nI 0), .int (nI 999)]) C hs hP hD hS (cs_find S26 0 (nI 0) (nI 999) 0 (by decide +kernel)) k_X5_find kl_L_25 rfl hl rfl rfl (Nat.le_of_ble_eq_true rfl) ⟨⟨rfl, rfl⟩, Nat.le_of_ble_eq_true rfl, Nat.le_of_ble_eq_true rfl⟩ ⟨Nat.le_of_ble_eq_true rfl, Nat.le_of_ble_eq_true rfl⟩ dL_roll_1027 (fun g z H locs hs hP hD hS => ?_)
  refine lv_if_ne (tgt := 1055) C.hx C.hb dL_roll_1030 (by decide) (fun c9 => absurd c9 (by decide +kernel)) (fun _ => ?_)
  refine lv_aload_n C.hx C.hb dL_roll_1033 rfl (lv_at hl 0 rfl) ?_
  refine lv_iconst (v := nI 3) C.hx C.hb dL_roll_1034 (by decide +kernel) ?_
  refine lv_iconst (v := nI 0) C.hx C.hb dL_roll_1035 (by decide +kernel) ?_
  refine lv_sipush (v := nI 999) C.hx C.hb dL_roll_1036 (by decide +kernel) ?_
  refine q_cP (L := S26) (L' := S26) (r := nI 1) (c2 := 2072) (s2 := 13009) (As := [.int (nI 3), .int (nI 0), .int (nI 999)]) C hs hP hD hS (cs_Lyears C.htr 3 0 999 (by decide +kernel)) k_L_years kl_L_118 hl rfl rfl (Nat.le_of_ble_eq_true rfl) ⟨Nat.le_of_ble_eq_true rfl, Nat.le_of_ble_eq_true rfl⟩ ⟨Nat.le_of_ble_eq_true rfl, Nat.le_of_ble_eq_true rfl⟩ ⟨Nat.le_of_ble_eq_true rfl, Nat.le_of_ble_eq_true rfl⟩ dL_roll_1039 (fun g z H locs hs hP hD hS => ?_)
  refine lv_if_eq (tgt := 1055) C.hx C.hb dL_roll_1042 (by decide) (fun c9 => absurd c9 (by decide +kernel)) (fun _ => ?_)
  exact kk g z H locs ls hs hP hD hS hl

set_option maxRecDepth 100000 in
set_option maxHeartbeats 4000000 in
theorem tr_roll_end {p : Program} {l : Launch} {e : Env} {s : State} {m : MethodId} {args : Array Value} {below : List Frame} {meth : Method} {c : Code} {D : va_G} {cA : ClassId} {A : Nat → Prop} {ad : Nat → Nat} (C : lcx p l s m c cL_roll 1 D cA A) (hr : meth.sig.returnType = some .boolean) (hlk : meth.locks = false) : ∀ (g : Nat → Nat → Int32) (z : Nat → Nat) (H : Heap) (locs : List Loc) (ls : Array Slot), isL S26 g z → va_P D vwCl (rlW cA ad g z) H → va_D A (rlW cA ad g z) → va_S A s.heap H locs → lv_has ls 1 [(0, .ref (ad 70))] → W p l e rm_Lroll s m args below meth c H locs 2072 13009 (q_GL D (nI 1) (fun w => w = []) A below args s 6000 40000) (F0 m 1045 ls []) := by
  intro g z H locs ls hs hP hD hS hl
  refine lv_aload_n C.hx C.hb dL_roll_1045 rfl (lv_at hl 0 rfl) ?_
  refine lv_iconst (v := nI 5) C.hx C.hb dL_roll_1046 (by decide +kernel) ?_
  refine lv_bipush (v := nI 6) C.hx C.hb dL_roll_1047 (by decide +kernel) ?_
  refine q_cP (L := S26) (L' := S26) (r := nI 1) (c2 := 2572) (s2 := 16009) (As := [.int (nI 5), .int (nI 6)]) C hs hP hD hS (cs_Lrefuses C.htr 5 6 (by decide +kernel)) k_L_refuses kl_L_109 hl rfl rfl (Nat.le_of_ble_eq_true rfl) ⟨Nat.le_of_ble_eq_true rfl, Nat.le_of_ble_eq_true rfl⟩ ⟨Nat.le_of_ble_eq_true rfl, Nat.le_of_ble_eq_true rfl⟩ ⟨Nat.le_of_ble_eq_true rfl, Nat.le_of_ble_eq_true rfl⟩ dL_roll_1049 (fun g z H locs hs hP hD hS => ?_)
  refine lv_if_ne (tgt := 1057) C.hx C.hb dL_roll_1052 (by decide) (fun _ => ?_) (fun c9 => absurd c9 (by decide +kernel))
  refine lv_aload_n C.hx C.hb dL_roll_1057 rfl (lv_at hl 0 rfl) ?_
  refine q_cP (L := S26) (L' := S36) (r := nI 1) (c2 := 3172) (s2 := 20009) (As := []) C hs hP hD hS (t_careers C.htr) k_L_careers kl_L_122 hl rfl rfl (Nat.le_of_ble_eq_true rfl) ⟨Nat.le_of_ble_eq_true rfl, Nat.le_of_ble_eq_true rfl⟩ ⟨Nat.le_of_ble_eq_true rfl, Nat.le_of_ble_eq_true rfl⟩ ⟨Nat.le_of_ble_eq_true rfl, Nat.le_of_ble_eq_true rfl⟩ dL_roll_1058 (fun g z H locs hs hP hD hS => ?_)
  refine lv_if_eq (tgt := 1087) C.hx C.hb dL_roll_1061 (by decide) (fun c9 => absurd c9 (by decide +kernel)) (fun _ => ?_)
  refine lv_aload_n C.hx C.hb dL_roll_1064 rfl (lv_at hl 0 rfl) ?_
  refine q_cP (L := S36) (L' := S36) (r := nI 1) (c2 := 3172) (s2 := 20009) (As := []) C hs hP hD hS (t_joins C.htr) k_L_joins kl_L_126 hl rfl rfl (Nat.le_of_ble_eq_true rfl) ⟨Nat.le_of_ble_eq_true rfl, Nat.le_of_ble_eq_true rfl⟩ ⟨Nat.le_of_ble_eq_true rfl, Nat.le_of_ble_eq_true rfl⟩ ⟨Nat.le_of_ble_eq_true rfl, Nat.le_of_ble_eq_true rfl⟩ dL_roll_1065 (fun g z H locs hs hP hD hS => ?_)
  refine lv_if_eq (tgt := 1087) C.hx C.hb dL_roll_1068 (by decide) (fun c9 => absurd c9 (by decide +kernel)) (fun _ => ?_)
  refine q_callE (As := []) (r := nI 1) (c2 := 4172) (s2 := 26009) C.hx C.hb C.hml C.hown C.hT C.hK hP hD hS C.hA C.hX C.hN C.hZ (t_most C.htr) k_L_most kl_L_129 hl rfl rfl (Nat.le_of_ble_eq_true rfl) ⟨Nat.le_of_ble_eq_true rfl, Nat.le_of_ble_eq_true rfl⟩ ⟨Nat.le_of_ble_eq_true rfl, Nat.le_of_ble_eq_true rfl⟩ ⟨Nat.le_of_ble_eq_true rfl, Nat.le_of_ble_eq_true rfl⟩ dL_roll_1071 (fun H locs hP hD hS => ?_)
  refine lv_if_eq (tgt := 1087) C.hx C.hb dL_roll_1074 (by decide) (fun c9 => absurd c9 (by decide +kernel)) (fun _ => ?_)
  refine q_callE (As := []) (r := nI 1) (c2 := 4372) (s2 := 28009) C.hx C.hb C.hml C.hown C.hT C.hK hP hD hS C.hA C.hX C.hN C.hZ (t_rounds C.htr) k_L_rounds kl_L_133 hl rfl rfl (Nat.le_of_ble_eq_true rfl) ⟨Nat.le_of_ble_eq_true rfl, Nat.le_of_ble_eq_true rfl⟩ ⟨Nat.le_of_ble_eq_true rfl, Nat.le_of_ble_eq_true rfl⟩ ⟨Nat.le_of_ble_eq_true rfl, Nat.le_of_ble_eq_true rfl⟩ dL_roll_1077 (fun H locs hP hD hS => ?_)
  refine lv_if_eq (tgt := 1087) C.hx C.hb dL_roll_1080 (by decide) (fun c9 => absurd c9 (by decide +kernel)) (fun _ => ?_)
  refine lv_iconst (v := nI 1) C.hx C.hb dL_roll_1083 (by decide +kernel) ?_
  refine lv_goto (tgt := 1088) C.hx C.hb dL_roll_1084 (by decide) ?_
  exact q_lzret (w' := []) C.hx C.hb hr hlk (Or.inr rfl) rfl rfl (fun k q h => by simp at h) hS (Nat.le_of_ble_eq_true rfl) (Nat.le_of_ble_eq_true rfl) dL_roll_1088

set_option maxRecDepth 100000 in
theorem t_roll {l : Launch} (htr : l.stackTraces = false) {D : va_G} {cA : ClassId} : q_CL l yL_roll [Cond.code yL_roll cL_roll 1 (some .boolean)] rm_Lroll D cA [] [] (nI 1) (fun w => w = []) := by
  refine q_startP RL (by decide +kernel) rfl (Nat.le_of_ble_eq_true rfl) ?_
  intro p e s m below meth c A args H locs ls hx hb hr hml hown hT hlk hP hK hD hA hS hl hX hN hZ
  have C : lcx p l s m c cL_roll 1 D cA A := ⟨hx, hb, hml, hown, hT, hK, hA, hX, hN, hZ, htr⟩
  refine q_new (N := 16) (ci := 5) hx hb hT hown kw_X5 tyX5 tyX5_ok kx_L_8 kn_X5 ki_OfficeholdersRoll hK hP hD hS hA rfl [.null, .null, .null, .null, .null, .null, .null, .null, .null, .null, .null, .null, .null, .null, .null, .int 0] q_fs_X5 (Nat.le_of_ble_eq_true rfl) (Nat.le_of_ble_eq_true rfl) dL_roll_0 (fun q5 H hP hD hS => ?_)
  refine lv_dup hx hb dL_roll_3 rfl ?_
  refine q_callN (rest := [.ref q5]) (As := []) (mc := 65) (ms := 957) (wr := []) hx hb hml hown hT hX.1 hK hP hD hS hA (c_X5_init l D cA q5) k_X5_init kl_L_108 hl rfl rfl (Nat.le_of_ble_eq_true rfl) ⟨⟨rfl, rfl⟩, Nat.le_of_ble_eq_true rfl, Nat.le_of_ble_eq_true rfl⟩ ⟨Nat.le_of_ble_eq_true rfl, Nat.le_of_ble_eq_true rfl⟩ dL_roll_4 (fun ad H locs hu hP hD hS => ?_)
  have hP : va_P D vwCl (rlW cA ad g5_0 (fun _ => 0)) H := hP
  have hD : va_D A (rlW cA ad g5_0 (fun _ => 0)) := hD
  refine lv_astore_n (lv' := [(0, .ref q5)]) hx hb dL_roll_7 rfl hl (by decide) rfl (fun ls hl => ?_)
  have hl : lv_has ls 1 [(0, .ref (ad 70))] := by rw [hu]; exact hl
  refine W.widen (k := 66) (n := 973) (Nat.le_of_ble_eq_true rfl) (Nat.le_of_ble_eq_true rfl) ?_
  exact tr_roll_0 C (tr_roll_1 C (tr_roll_2 C (tr_roll_3 C (tr_roll_4 C (tr_roll_5 C (tr_roll_6 C (tr_roll_7 C (tr_roll_8 C (tr_roll_end C hr hlk))))))))) g5_0 (fun _ => 0) H locs ls isL_new hP hD hS hl

