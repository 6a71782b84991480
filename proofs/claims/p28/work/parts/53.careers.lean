abbrev rm_Lcareers : Room := { frames := 11, cells := 600, slots := 4000, locals := 250 }
set_option maxRecDepth 100000 in
set_option maxHeartbeats 4000000 in
theorem tr_careers_0 {p : Program} {l : Launch} {e : Env} {s : State} {m : MethodId} {args : Array Value} {below : List Frame} {meth : Method} {c : Code} {D : va_G} {cA : ClassId} {A : Nat → Prop} {ad : Nat → Nat} {Q : State → Prop} (C : lcx p l s m c cL_careers 1 D cA A) (kk : ∀ (g : Nat → Nat → Int32) (z : Nat → Nat) (H : Heap) (locs : List Loc) (ls : Array Slot), isL S29 g z → va_P D vwCl (rlW cA ad g z) H → va_D A (rlW cA ad g z) → va_S A s.heap H locs → lv_has ls 1 [(0, .ref (ad 70))] → W p l e rm_Lcareers s m args below meth c H locs 0 0 Q (F0 m 114 ls [])) : ∀ (g : Nat → Nat → Int32) (z : Nat → Nat) (H : Heap) (locs : List Loc) (ls : Array Slot), isL S26 g z → va_P D vwCl (rlW cA ad g z) H → va_D A (rlW cA ad g z) → va_S A s.heap H locs → lv_has ls 1 [(0, .ref (ad 70))] → W p l e rm_Lcareers s m args below meth c H locs 0 0 Q (F0 m 0 ls []) := by
  intro g z H locs ls hs hP hD hS hl
  refine lv_aload_n C.hx C.hb dL_careers_0 rfl (lv_at hl 0 rfl) ?_
  refine lv_iconst (v := nI 0) C.hx C.hb dL_careers_1 (by decide +kernel) ?_
  refine lv_iconst (v := nI 0) C.hx C.hb dL_careers_2 (by decide +kernel) ?_
  refine q_cO (L := S26) (L' := S26) (As := [.int (nI 0), .int (nI 0)]) C hs hP hD hS (cs_careerAt 0 0 (nI 0) (by decide +kernel)) k_X5_careerAt kl_L_67 rfl hl rfl rfl (Nat.le_of_ble_eq_true rfl) ⟨⟨rfl, rfl⟩, Nat.le_of_ble_eq_true rfl, Nat.le_of_ble_eq_true rfl⟩ ⟨Nat.le_of_ble_eq_true rfl, Nat.le_of_ble_eq_true rfl⟩ dL_careers_3 (fun g z H locs hs hP hD hS => ?_)
  refine lv_if_ne (tgt := 221) C.hx C.hb dL_careers_6 (by decide) (fun c9 => absurd c9 (by decide +kernel)) (fun _ => ?_)
  refine lv_aload_n C.hx C.hb dL_careers_9 rfl (lv_at hl 0 rfl) ?_
  refine lv_iconst (v := nI 1) C.hx C.hb dL_careers_10 (by decide +kernel) ?_
  refine lv_iconst (v := nI 1) C.hx C.hb dL_careers_11 (by decide +kernel) ?_
  refine q_cO (L := S26) (L' := S26) (As := [.int (nI 1), .int (nI 1)]) C hs hP hD hS (cs_careerAt 1 1 (nI 2) (by decide +kernel)) k_X5_careerAt kl_L_67 rfl hl rfl rfl (Nat.le_of_ble_eq_true rfl) ⟨⟨rfl, rfl⟩, Nat.le_of_ble_eq_true rfl, Nat.le_of_ble_eq_true rfl⟩ ⟨Nat.le_of_ble_eq_true rfl, Nat.le_of_ble_eq_true rfl⟩ dL_careers_12 (fun g z H locs hs hP hD hS => ?_)
  refine lv_iconst (v := nI 2) C.hx C.hb dL_careers_15 (by decide +kernel) ?_
  refine lv_icmp_ne (tgt := 221) C.hx C.hb dL_careers_16 (by decide) (fun c9 => absurd c9 (by decide +kernel)) (fun _ => ?_)
  refine lv_aload_n C.hx C.hb dL_careers_19 rfl (lv_at hl 0 rfl) ?_
  refine lv_iconst (v := nI 0) C.hx C.hb dL_careers_20 (by decide +kernel) ?_
  refine lv_iconst (v := nI 2) C.hx C.hb dL_careers_21 (by decide +kernel) ?_
  refine q_cO (L := S26) (L' := S26) (As := [.int (nI 0), .int (nI 2)]) C hs hP hD hS (cs_careerAt 0 2 (-1) (by decide +kernel)) k_X5_careerAt kl_L_67 rfl hl rfl rfl (Nat.le_of_ble_eq_true rfl) ⟨⟨rfl, rfl⟩, Nat.le_of_ble_eq_true rfl, Nat.le_of_ble_eq_true rfl⟩ ⟨Nat.le_of_ble_eq_true rfl, Nat.le_of_ble_eq_true rfl⟩ dL_careers_22 (fun g z H locs hs hP hD hS => ?_)
  refine lv_iconst (v := -1) C.hx C.hb dL_careers_25 (by decide +kernel) ?_
  refine lv_icmp_ne (tgt := 221) C.hx C.hb dL_careers_26 (by decide) (fun c9 => absurd c9 (by decide +kernel)) (fun _ => ?_)
  refine lv_aload_n C.hx C.hb dL_careers_29 rfl (lv_at hl 0 rfl) ?_
  refine lv_iconst (v := nI 3) C.hx C.hb dL_careers_30 (by decide +kernel) ?_
  refine lv_iconst (v := nI 0) C.hx C.hb dL_careers_31 (by decide +kernel) ?_
  refine q_cO (L := S26) (L' := S26) (As := [.int (nI 3), .int (nI 0)]) C hs hP hD hS (cs_careerAt 3 0 (nI 4) (by decide +kernel)) k_X5_careerAt kl_L_67 rfl hl rfl rfl (Nat.le_of_ble_eq_true rfl) ⟨⟨rfl, rfl⟩, Nat.le_of_ble_eq_true rfl, Nat.le_of_ble_eq_true rfl⟩ ⟨Nat.le_of_ble_eq_true rfl, Nat.le_of_ble_eq_true rfl⟩ dL_careers_32 (fun g z H locs hs hP hD hS => ?_)
  refine lv_iconst (v := nI 4) C.hx C.hb dL_careers_35 (by decide +kernel) ?_
  refine lv_icmp_ne (tgt := 221) C.hx C.hb dL_careers_36 (by decide) (fun c9 => absurd c9 (by decide +kernel)) (fun _ => ?_)
  refine lv_aload_n C.hx C.hb dL_careers_39 rfl (lv_at hl 0 rfl) ?_
  refine lv_iconst (v := nI 4) C.hx C.hb dL_careers_40 (by decide +kernel) ?_
  refine lv_iconst (v := nI 1) C.hx C.hb dL_careers_41 (by decide +kernel) ?_
  refine q_cO (L := S26) (L' := S26) (As := [.int (nI 4), .int (nI 1)]) C hs hP hD hS (cs_careerAt 4 1 (-1) (by decide +kernel)) k_X5_careerAt kl_L_67 rfl hl rfl rfl (Nat.le_of_ble_eq_true rfl) ⟨⟨rfl, rfl⟩, Nat.le_of_ble_eq_true rfl, Nat.le_of_ble_eq_true rfl⟩ ⟨Nat.le_of_ble_eq_true rfl, Nat.le_of_ble_eq_true rfl⟩ dL_careers_42 (fun g z H locs hs hP hD hS => ?_)
  refine lv_iconst (v := -1) C.hx C.hb dL_careers_45 (by decide +kernel) ?_
  refine lv_icmp_ne (tgt := 221) C.hx C.hb dL_careers_46 (by decide) (fun c9 => absurd c9 (by decide +kernel)) (fun _ => ?_)
  refine lv_aload_n C.hx C.hb dL_careers_49 rfl (lv_at hl 0 rfl) ?_
  refine lv_iconst (v := nI 5) C.hx C.hb dL_careers_50 (by decide +kernel) ?_
  refine lv_iconst (v := nI 0) C.hx C.hb dL_careers_51 (by decide +kernel) ?_
  refine q_cO (L := S26) (L' := S26) (As := [.int (nI 5), .int (nI 0)]) C hs hP hD hS (cs_careerAt 5 0 (nI 1) (by decide +kernel)) k_X5_careerAt kl_L_67 rfl hl rfl rfl (Nat.le_of_ble_eq_true rfl) ⟨⟨rfl, rfl⟩, Nat.le_of_ble_eq_true rfl, Nat.le_of_ble_eq_true rfl⟩ ⟨Nat.le_of_ble_eq_true rfl, Nat.le_of_ble_eq_true rfl⟩ dL_careers_52 (fun g z H locs hs hP hD hS => ?_)
  refine lv_iconst (v := nI 1) C.hx C.hb dL_careers_55 (by decide +kernel) ?_
  refine lv_icmp_ne (tgt := 221) C.hx C.hb dL_careers_56 (by decide) (fun c9 => absurd c9 (by decide +kernel)) (fun _ => ?_)
  refine lv_aload_n C.hx C.hb dL_careers_59 rfl (lv_at hl 0 rfl) ?_
  refine lv_iconst (v := nI 0) C.hx C.hb dL_careers_60 (by decide +kernel) ?_
  refine q_cO (L := S26) (L' := S26) (As := [.int (nI 0)]) C hs hP hD hS (cs_breaches 0 0 (by decide +kernel)) k_X5_breaches kl_L_70 rfl hl rfl rfl (Nat.le_of_ble_eq_true rfl) ⟨⟨rfl, rfl⟩, Nat.le_of_ble_eq_true rfl, Nat.le_of_ble_eq_true rfl⟩ ⟨Nat.le_of_ble_eq_true rfl, Nat.le_of_ble_eq_true rfl⟩ dL_careers_61 (fun g z H locs hs hP hD hS => ?_)
  refine lv_if_ne (tgt := 221) C.hx C.hb dL_careers_64 (by decide) (fun c9 => absurd c9 (by decide +kernel)) (fun _ => ?_)
  refine lv_aload_n C.hx C.hb dL_careers_67 rfl (lv_at hl 0 rfl) ?_
  refine lv_iconst (v := nI 3) C.hx C.hb dL_careers_68 (by decide +kernel) ?_
  refine lv_iconst (v := nI 2) C.hx C.hb dL_careers_69 (by decide +kernel) ?_
  refine lv_iconst (v := nI 1) C.hx C.hb dL_careers_70 (by decide +kernel) ?_
  refine lv_bipush (v := nI 7) C.hx C.hb dL_careers_71 (by decide +kernel) ?_
  refine q_cO (L := S26) (L' := S27) (As := [.int (nI 3), .int (nI 2), .int (nI 1), .int (nI 7)]) C hs hP hD hS (cs_mention S27 (nI 3) (nI 2) (nI 1) (nI 7) (Or.inr (q_r_nI (by decide))) 5 (by decide +kernel)) k_X5_mention kl_L_7 rfl hl rfl rfl (Nat.le_of_ble_eq_true rfl) ⟨⟨rfl, rfl⟩, Nat.le_of_ble_eq_true rfl, Nat.le_of_ble_eq_true rfl⟩ ⟨Nat.le_of_ble_eq_true rfl, Nat.le_of_ble_eq_true rfl⟩ dL_careers_73 (fun g z H locs hs hP hD hS => ?_)
  refine lv_iconst (v := nI 5) C.hx C.hb dL_careers_76 (by decide +kernel) ?_
  refine lv_icmp_ne (tgt := 221) C.hx C.hb dL_careers_77 (by decide) (fun c9 => absurd c9 (by decide +kernel)) (fun _ => ?_)
  refine lv_aload_n C.hx C.hb dL_careers_80 rfl (lv_at hl 0 rfl) ?_
  refine lv_iconst (v := nI 5) C.hx C.hb dL_careers_81 (by decide +kernel) ?_
  refine q_cO (L := S27) (L' := S27) (As := [.int (nI 5)]) C hs hP hD hS (cs_person 5 6 (by decide +kernel)) k_X5_person kl_L_58 rfl hl rfl rfl (Nat.le_of_ble_eq_true rfl) ⟨⟨rfl, rfl⟩, Nat.le_of_ble_eq_true rfl, Nat.le_of_ble_eq_true rfl⟩ ⟨Nat.le_of_ble_eq_true rfl, Nat.le_of_ble_eq_true rfl⟩ dL_careers_82 (fun g z H locs hs hP hD hS => ?_)
  refine lv_bipush (v := nI 6) C.hx C.hb dL_careers_85 (by decide +kernel) ?_
  refine lv_icmp_ne (tgt := 221) C.hx C.hb dL_careers_87 (by decide) (fun c9 => absurd c9 (by decide +kernel)) (fun _ => ?_)
  refine lv_aload_n C.hx C.hb dL_careers_90 rfl (lv_at hl 0 rfl) ?_
  refine lv_iconst (v := nI 5) C.hx C.hb dL_careers_91 (by decide +kernel) ?_
  refine lv_sipush (v := nI 495) C.hx C.hb dL_careers_92 (by decide +kernel) ?_
  refine lv_sipush (v := nI 495) C.hx C.hb dL_careers_95 (by decide +kernel) ?_
  refine q_cO (L := S27) (L' := S28) (As := [.int (nI 5), .int (nI 495), .int (nI 495)]) C hs hP hD hS (cs_find S28 5 (nI 495) (nI 495) 1 (by decide +kernel)) k_X5_find kl_L_25 rfl hl rfl rfl (Nat.le_of_ble_eq_true rfl) ⟨⟨rfl, rfl⟩, Nat.le_of_ble_eq_true rfl, Nat.le_of_ble_eq_true rfl⟩ ⟨Nat.le_of_ble_eq_true rfl, Nat.le_of_ble_eq_true rfl⟩ dL_careers_98 (fun g z H locs hs hP hD hS => ?_)
  refine lv_iconst (v := nI 1) C.hx C.hb dL_careers_101 (by decide +kernel) ?_
  refine lv_icmp_ne (tgt := 221) C.hx C.hb dL_careers_102 (by decide) (fun c9 => absurd c9 (by decide +kernel)) (fun _ => ?_)
  refine lv_aload_n C.hx C.hb dL_careers_105 rfl (lv_at hl 0 rfl) ?_
  refine lv_iconst (v := nI 5) C.hx C.hb dL_careers_106 (by decide +kernel) ?_
  refine lv_iconst (v := nI 2) C.hx C.hb dL_careers_107 (by decide +kernel) ?_
  refine q_cO (L := S28) (L' := S29) (As := [.int (nI 5), .int (nI 2)]) C hs hP hD hS (cs_join S29 5 2 0 (by decide +kernel)) k_X5_join kl_L_51 rfl hl rfl rfl (Nat.le_of_ble_eq_true rfl) ⟨⟨rfl, rfl⟩, Nat.le_of_ble_eq_true rfl, Nat.le_of_ble_eq_true rfl⟩ ⟨Nat.le_of_ble_eq_true rfl, Nat.le_of_ble_eq_true rfl⟩ dL_careers_108 (fun g z H locs hs hP hD hS => ?_)
  refine lv_if_ne (tgt := 221) C.hx C.hb dL_careers_111 (by decide) (fun c9 => absurd c9 (by decide +kernel)) (fun _ => ?_)
  exact kk g z H locs ls hs hP hD hS hl

set_option maxRecDepth 100000 in
set_option maxHeartbeats 4000000 in
theorem tr_careers_1 {p : Program} {l : Launch} {e : Env} {s : State} {m : MethodId} {args : Array Value} {below : List Frame} {meth : Method} {c : Code} {D : va_G} {cA : ClassId} {A : Nat → Prop} {ad : Nat → Nat} {Q : State → Prop} (C : lcx p l s m c cL_careers 1 D cA A) (kk : ∀ (g : Nat → Nat → Int32) (z : Nat → Nat) (H : Heap) (locs : List Loc) (ls : Array Slot), isL S32 g z → va_P D vwCl (rlW cA ad g z) H → va_D A (rlW cA ad g z) → va_S A s.heap H locs → lv_has ls 1 [(0, .ref (ad 70))] → W p l e rm_Lcareers s m args below meth c H locs 0 0 Q (F0 m 233 ls [])) : ∀ (g : Nat → Nat → Int32) (z : Nat → Nat) (H : Heap) (locs : List Loc) (ls : Array Slot), isL S29 g z → va_P D vwCl (rlW cA ad g z) H → va_D A (rlW cA ad g z) → va_S A s.heap H locs → lv_has ls 1 [(0, .ref (ad 70))] → W p l e rm_Lcareers s m args below meth c H locs 0 0 Q (F0 m 114 ls []) := by
  intro g z H locs ls hs hP hD hS hl
  refine lv_aload_n C.hx C.hb dL_careers_114 rfl (lv_at hl 0 rfl) ?_
  refine lv_iconst (v := nI 0) C.hx C.hb dL_careers_115 (by decide +kernel) ?_
  refine lv_iconst (v := nI 1) C.hx C.hb dL_careers_116 (by decide +kernel) ?_
  refine q_cO (L := S29) (L' := S29) (As := [.int (nI 0), .int (nI 1)]) C hs hP hD hS (cs_careerAt 0 1 (nI 5) (by decide +kernel)) k_X5_careerAt kl_L_67 rfl hl rfl rfl (Nat.le_of_ble_eq_true rfl) ⟨⟨rfl, rfl⟩, Nat.le_of_ble_eq_true rfl, Nat.le_of_ble_eq_true rfl⟩ ⟨Nat.le_of_ble_eq_true rfl, Nat.le_of_ble_eq_true rfl⟩ dL_careers_117 (fun g z H locs hs hP hD hS => ?_)
  refine lv_iconst (v := nI 5) C.hx C.hb dL_careers_120 (by decide +kernel) ?_
  refine lv_icmp_ne (tgt := 221) C.hx C.hb dL_careers_121 (by decide) (fun c9 => absurd c9 (by decide +kernel)) (fun _ => ?_)
  refine lv_aload_n C.hx C.hb dL_careers_124 rfl (lv_at hl 0 rfl) ?_
  refine lv_iconst (v := nI 0) C.hx C.hb dL_careers_125 (by decide +kernel) ?_
  refine lv_iconst (v := nI 2) C.hx C.hb dL_careers_126 (by decide +kernel) ?_
  refine q_cO (L := S29) (L' := S29) (As := [.int (nI 0), .int (nI 2)]) C hs hP hD hS (cs_careerAt 0 2 (nI 2) (by decide +kernel)) k_X5_careerAt kl_L_67 rfl hl rfl rfl (Nat.le_of_ble_eq_true rfl) ⟨⟨rfl, rfl⟩, Nat.le_of_ble_eq_true rfl, Nat.le_of_ble_eq_true rfl⟩ ⟨Nat.le_of_ble_eq_true rfl, Nat.le_of_ble_eq_true rfl⟩ dL_careers_127 (fun g z H locs hs hP hD hS => ?_)
  refine lv_iconst (v := nI 2) C.hx C.hb dL_careers_130 (by decide +kernel) ?_
  refine lv_icmp_ne (tgt := 221) C.hx C.hb dL_careers_131 (by decide) (fun c9 => absurd c9 (by decide +kernel)) (fun _ => ?_)
  refine lv_aload_n C.hx C.hb dL_careers_134 rfl (lv_at hl 0 rfl) ?_
  refine lv_bipush (v := nI 6) C.hx C.hb dL_careers_135 (by decide +kernel) ?_
  refine q_cO (L := S29) (L' := S29) (As := [.int (nI 6)]) C hs hP hD hS (cs_breaches 6 1 (by decide +kernel)) k_X5_breaches kl_L_70 rfl hl rfl rfl (Nat.le_of_ble_eq_true rfl) ⟨⟨rfl, rfl⟩, Nat.le_of_ble_eq_true rfl, Nat.le_of_ble_eq_true rfl⟩ ⟨Nat.le_of_ble_eq_true rfl, Nat.le_of_ble_eq_true rfl⟩ dL_careers_137 (fun g z H locs hs hP hD hS => ?_)
  refine lv_iconst (v := nI 1) C.hx C.hb dL_careers_140 (by decide +kernel) ?_
  refine lv_icmp_ne (tgt := 221) C.hx C.hb dL_careers_141 (by decide) (fun c9 => absurd c9 (by decide +kernel)) (fun _ => ?_)
  refine lv_aload_n C.hx C.hb dL_careers_144 rfl (lv_at hl 0 rfl) ?_
  refine lv_bipush (v := nI 7) C.hx C.hb dL_careers_145 (by decide +kernel) ?_
  refine lv_iconst (v := nI 0) C.hx C.hb dL_careers_147 (by decide +kernel) ?_
  refine q_cO (L := S29) (L' := S30) (As := [.int (nI 7), .int (nI 0)]) C hs hP hD hS (cs_rank S30 7 (nI 0) 7 (by decide +kernel)) k_X5_rank kl_L_13 rfl hl rfl rfl (Nat.le_of_ble_eq_true rfl) ⟨⟨rfl, rfl⟩, Nat.le_of_ble_eq_true rfl, Nat.le_of_ble_eq_true rfl⟩ ⟨Nat.le_of_ble_eq_true rfl, Nat.le_of_ble_eq_true rfl⟩ dL_careers_148 (fun g z H locs hs hP hD hS => ?_)
  refine lv_bipush (v := nI 7) C.hx C.hb dL_careers_151 (by decide +kernel) ?_
  refine lv_icmp_ne (tgt := 221) C.hx C.hb dL_careers_153 (by decide) (fun c9 => absurd c9 (by decide +kernel)) (fun _ => ?_)
  refine lv_aload_n C.hx C.hb dL_careers_156 rfl (lv_at hl 0 rfl) ?_
  refine lv_iconst (v := nI 0) C.hx C.hb dL_careers_157 (by decide +kernel) ?_
  refine q_cO (L := S30) (L' := S30) (As := [.int (nI 0)]) C hs hP hD hS (cs_breaches 0 0 (by decide +kernel)) k_X5_breaches kl_L_70 rfl hl rfl rfl (Nat.le_of_ble_eq_true rfl) ⟨⟨rfl, rfl⟩, Nat.le_of_ble_eq_true rfl, Nat.le_of_ble_eq_true rfl⟩ ⟨Nat.le_of_ble_eq_true rfl, Nat.le_of_ble_eq_true rfl⟩ dL_careers_158 (fun g z H locs hs hP hD hS => ?_)
  refine lv_if_ne (tgt := 221) C.hx C.hb dL_careers_161 (by decide) (fun c9 => absurd c9 (by decide +kernel)) (fun _ => ?_)
  refine lv_aload_n C.hx C.hb dL_careers_164 rfl (lv_at hl 0 rfl) ?_
  refine lv_iconst (v := nI 0) C.hx C.hb dL_careers_165 (by decide +kernel) ?_
  refine lv_bipush (v := nI 9) C.hx C.hb dL_careers_166 (by decide +kernel) ?_
  refine q_cO (L := S30) (L' := S31) (As := [.int (nI 0), .int (nI 9)]) C hs hP hD hS (cs_rank S31 0 (nI 9) 0 (by decide +kernel)) k_X5_rank kl_L_13 rfl hl rfl rfl (Nat.le_of_ble_eq_true rfl) ⟨⟨rfl, rfl⟩, Nat.le_of_ble_eq_true rfl, Nat.le_of_ble_eq_true rfl⟩ ⟨Nat.le_of_ble_eq_true rfl, Nat.le_of_ble_eq_true rfl⟩ dL_careers_168 (fun g z H locs hs hP hD hS => ?_)
  refine lv_if_ne (tgt := 221) C.hx C.hb dL_careers_171 (by decide) (fun c9 => absurd c9 (by decide +kernel)) (fun _ => ?_)
  refine lv_aload_n C.hx C.hb dL_careers_174 rfl (lv_at hl 0 rfl) ?_
  refine lv_iconst (v := nI 0) C.hx C.hb dL_careers_175 (by decide +kernel) ?_
  refine q_cO (L := S31) (L' := S31) (As := [.int (nI 0)]) C hs hP hD hS (cs_breaches 0 1 (by decide +kernel)) k_X5_breaches kl_L_70 rfl hl rfl rfl (Nat.le_of_ble_eq_true rfl) ⟨⟨rfl, rfl⟩, Nat.le_of_ble_eq_true rfl, Nat.le_of_ble_eq_true rfl⟩ ⟨Nat.le_of_ble_eq_true rfl, Nat.le_of_ble_eq_true rfl⟩ dL_careers_176 (fun g z H locs hs hP hD hS => ?_)
  refine lv_iconst (v := nI 1) C.hx C.hb dL_careers_179 (by decide +kernel) ?_
  refine lv_icmp_ne (tgt := 221) C.hx C.hb dL_careers_180 (by decide) (fun c9 => absurd c9 (by decide +kernel)) (fun _ => ?_)
  refine lv_aload_n C.hx C.hb dL_careers_183 rfl (lv_at hl 0 rfl) ?_
  refine lv_iconst (v := nI 5) C.hx C.hb dL_careers_184 (by decide +kernel) ?_
  refine q_cO (L := S31) (L' := S32) (As := [.int (nI 5)]) C hs hP hD hS (cs_split S32 5 7 (by decide +kernel)) k_X5_split kl_L_54 rfl hl rfl rfl (Nat.le_of_ble_eq_true rfl) ⟨⟨rfl, rfl⟩, Nat.le_of_ble_eq_true rfl, Nat.le_of_ble_eq_true rfl⟩ ⟨Nat.le_of_ble_eq_true rfl, Nat.le_of_ble_eq_true rfl⟩ dL_careers_185 (fun g z H locs hs hP hD hS => ?_)
  refine lv_bipush (v := nI 7) C.hx C.hb dL_careers_188 (by decide +kernel) ?_
  refine lv_icmp_ne (tgt := 221) C.hx C.hb dL_careers_190 (by decide) (fun c9 => absurd c9 (by decide +kernel)) (fun _ => ?_)
  refine lv_aload_n C.hx C.hb dL_careers_193 rfl (lv_at hl 0 rfl) ?_
  refine lv_iconst (v := nI 0) C.hx C.hb dL_careers_194 (by decide +kernel) ?_
  refine q_cO (L := S32) (L' := S32) (As := [.int (nI 0)]) C hs hP hD hS (cs_breaches 0 0 (by decide +kernel)) k_X5_breaches kl_L_70 rfl hl rfl rfl (Nat.le_of_ble_eq_true rfl) ⟨⟨rfl, rfl⟩, Nat.le_of_ble_eq_true rfl, Nat.le_of_ble_eq_true rfl⟩ ⟨Nat.le_of_ble_eq_true rfl, Nat.le_of_ble_eq_true rfl⟩ dL_careers_195 (fun g z H locs hs hP hD hS => ?_)
  refine lv_if_ne (tgt := 221) C.hx C.hb dL_careers_198 (by decide) (fun c9 => absurd c9 (by decide +kernel)) (fun _ => ?_)
  refine lv_aload_n C.hx C.hb dL_careers_201 rfl (lv_at hl 0 rfl) ?_
  refine lv_bipush (v := nI 6) C.hx C.hb dL_careers_202 (by decide +kernel) ?_
  refine q_cO (L := S32) (L' := S32) (As := [.int (nI 6)]) C hs hP hD hS (cs_breaches 6 0 (by decide +kernel)) k_X5_breaches kl_L_70 rfl hl rfl rfl (Nat.le_of_ble_eq_true rfl) ⟨⟨rfl, rfl⟩, Nat.le_of_ble_eq_true rfl, Nat.le_of_ble_eq_true rfl⟩ ⟨Nat.le_of_ble_eq_true rfl, Nat.le_of_ble_eq_true rfl⟩ dL_careers_204 (fun g z H locs hs hP hD hS => ?_)
  refine lv_if_ne (tgt := 221) C.hx C.hb dL_careers_207 (by decide) (fun c9 => absurd c9 (by decide +kernel)) (fun _ => ?_)
  refine lv_aload_n C.hx C.hb dL_careers_210 rfl (lv_at hl 0 rfl) ?_
  refine lv_bipush (v := nI 7) C.hx C.hb dL_careers_211 (by decide +kernel) ?_
  refine lv_iconst (v := nI 0) C.hx C.hb dL_careers_213 (by decide +kernel) ?_
  refine q_cO (L := S32) (L' := S32) (As := [.int (nI 7), .int (nI 0)]) C hs hP hD hS (cs_careerAt 7 0 (nI 5) (by decide +kernel)) k_X5_careerAt kl_L_67 rfl hl rfl rfl (Nat.le_of_ble_eq_true rfl) ⟨⟨rfl, rfl⟩, Nat.le_of_ble_eq_true rfl, Nat.le_of_ble_eq_true rfl⟩ ⟨Nat.le_of_ble_eq_true rfl, Nat.le_of_ble_eq_true rfl⟩ dL_careers_214 (fun g z H locs hs hP hD hS => ?_)
  refine lv_iconst (v := nI 5) C.hx C.hb dL_careers_217 (by decide +kernel) ?_
  refine lv_icmp_eq (tgt := 223) C.hx C.hb dL_careers_218 (by decide) (fun _ => ?_) (fun c9 => absurd c9 (by decide +kernel))
  refine lv_aload_n C.hx C.hb dL_careers_223 rfl (lv_at hl 0 rfl) ?_
  refine lv_iconst (v := nI 0) C.hx C.hb dL_careers_224 (by decide +kernel) ?_
  refine lv_iconst (v := nI 3) C.hx C.hb dL_careers_225 (by decide +kernel) ?_
  refine q_cO (L := S32) (L' := S32) (As := [.int (nI 0), .int (nI 3)]) C hs hP hD hS (cs_degree 0 3 (-1) (by decide +kernel)) k_X5_degree kl_L_76 rfl hl rfl rfl (Nat.le_of_ble_eq_true rfl) ⟨⟨rfl, rfl⟩, Nat.le_of_ble_eq_true rfl, Nat.le_of_ble_eq_true rfl⟩ ⟨Nat.le_of_ble_eq_true rfl, Nat.le_of_ble_eq_true rfl⟩ dL_careers_226 (fun g z H locs hs hP hD hS => ?_)
  refine lv_iconst (v := -1) C.hx C.hb dL_careers_229 (by decide +kernel) ?_
  refine lv_icmp_ne (tgt := 406) C.hx C.hb dL_careers_230 (by decide) (fun c9 => absurd c9 (by decide +kernel)) (fun _ => ?_)
  exact kk g z H locs ls hs hP hD hS hl

set_option maxRecDepth 100000 in
set_option maxHeartbeats 4000000 in
theorem tr_careers_2 {p : Program} {l : Launch} {e : Env} {s : State} {m : MethodId} {args : Array Value} {below : List Frame} {meth : Method} {c : Code} {D : va_G} {cA : ClassId} {A : Nat → Prop} {ad : Nat → Nat} {Q : State → Prop} (C : lcx p l s m c cL_careers 1 D cA A) (kk : ∀ (g : Nat → Nat → Int32) (z : Nat → Nat) (H : Heap) (locs : List Loc) (ls : Array Slot), isL S34 g z → va_P D vwCl (rlW cA ad g z) H → va_D A (rlW cA ad g z) → va_S A s.heap H locs → lv_has ls 1 [(0, .ref (ad 70))] → W p l e rm_Lcareers s m args below meth c H locs 0 0 Q (F0 m 341 ls [])) : ∀ (g : Nat → Nat → Int32) (z : Nat → Nat) (H : Heap) (locs : List Loc) (ls : Array Slot), isL S32 g z → va_P D vwCl (rlW cA ad g z) H → va_D A (rlW cA ad g z) → va_S A s.heap H locs → lv_has ls 1 [(0, .ref (ad 70))] → W p l e rm_Lcareers s m args below meth c H locs 0 0 Q (F0 m 233 ls []) := by
  intro g z H locs ls hs hP hD hS hl
  refine lv_aload_n C.hx C.hb dL_careers_233 rfl (lv_at hl 0 rfl) ?_
  refine lv_iconst (v := nI 0) C.hx C.hb dL_careers_234 (by decide +kernel) ?_
  refine lv_iconst (v := nI 3) C.hx C.hb dL_careers_235 (by decide +kernel) ?_
  refine q_cO (L := S32) (L' := S33) (As := [.int (nI 0), .int (nI 3)]) C hs hP hD hS (cs_kin S33 0 3 false (by decide +kernel)) k_X5_kin kl_L_73 rfl hl rfl rfl (Nat.le_of_ble_eq_true rfl) ⟨⟨rfl, rfl⟩, Nat.le_of_ble_eq_true rfl, Nat.le_of_ble_eq_true rfl⟩ ⟨Nat.le_of_ble_eq_true rfl, Nat.le_of_ble_eq_true rfl⟩ dL_careers_236 (fun g z H locs hs hP hD hS => ?_)
  refine lv_if_ne (tgt := 406) C.hx C.hb dL_careers_239 (by decide) (fun c9 => absurd c9 (by decide +kernel)) (fun _ => ?_)
  refine lv_aload_n C.hx C.hb dL_careers_242 rfl (lv_at hl 0 rfl) ?_
  refine lv_iconst (v := nI 3) C.hx C.hb dL_careers_243 (by decide +kernel) ?_
  refine lv_iconst (v := nI 0) C.hx C.hb dL_careers_244 (by decide +kernel) ?_
  refine q_cO (L := S33) (L' := S33) (As := [.int (nI 3), .int (nI 0)]) C hs hP hD hS (cs_kin S33 3 0 true (by decide +kernel)) k_X5_kin kl_L_73 rfl hl rfl rfl (Nat.le_of_ble_eq_true rfl) ⟨⟨rfl, rfl⟩, Nat.le_of_ble_eq_true rfl, Nat.le_of_ble_eq_true rfl⟩ ⟨Nat.le_of_ble_eq_true rfl, Nat.le_of_ble_eq_true rfl⟩ dL_careers_245 (fun g z H locs hs hP hD hS => ?_)
  refine lv_if_eq (tgt := 406) C.hx C.hb dL_careers_248 (by decide) (fun c9 => absurd c9 (by decide +kernel)) (fun _ => ?_)
  refine lv_aload_n C.hx C.hb dL_careers_251 rfl (lv_at hl 0 rfl) ?_
  refine lv_iconst (v := nI 0) C.hx C.hb dL_careers_252 (by decide +kernel) ?_
  refine lv_iconst (v := nI 3) C.hx C.hb dL_careers_253 (by decide +kernel) ?_
  refine q_cO (L := S33) (L' := S33) (As := [.int (nI 0), .int (nI 3)]) C hs hP hD hS (cs_degree 0 3 (nI 1) (by decide +kernel)) k_X5_degree kl_L_76 rfl hl rfl rfl (Nat.le_of_ble_eq_true rfl) ⟨⟨rfl, rfl⟩, Nat.le_of_ble_eq_true rfl, Nat.le_of_ble_eq_true rfl⟩ ⟨Nat.le_of_ble_eq_true rfl, Nat.le_of_ble_eq_true rfl⟩ dL_careers_254 (fun g z H locs hs hP hD hS => ?_)
  refine lv_iconst (v := nI 1) C.hx C.hb dL_careers_257 (by decide +kernel) ?_
  refine lv_icmp_ne (tgt := 406) C.hx C.hb dL_careers_258 (by decide) (fun c9 => absurd c9 (by decide +kernel)) (fun _ => ?_)
  refine lv_aload_n C.hx C.hb dL_careers_261 rfl (lv_at hl 0 rfl) ?_
  refine lv_iconst (v := nI 4) C.hx C.hb dL_careers_262 (by decide +kernel) ?_
  refine lv_iconst (v := nI 2) C.hx C.hb dL_careers_263 (by decide +kernel) ?_
  refine q_cO (L := S33) (L' := S33) (As := [.int (nI 4), .int (nI 2)]) C hs hP hD hS (cs_degree 4 2 (nI 1) (by decide +kernel)) k_X5_degree kl_L_76 rfl hl rfl rfl (Nat.le_of_ble_eq_true rfl) ⟨⟨rfl, rfl⟩, Nat.le_of_ble_eq_true rfl, Nat.le_of_ble_eq_true rfl⟩ ⟨Nat.le_of_ble_eq_true rfl, Nat.le_of_ble_eq_true rfl⟩ dL_careers_264 (fun g z H locs hs hP hD hS => ?_)
  refine lv_iconst (v := nI 1) C.hx C.hb dL_careers_267 (by decide +kernel) ?_
  refine lv_icmp_ne (tgt := 406) C.hx C.hb dL_careers_268 (by decide) (fun c9 => absurd c9 (by decide +kernel)) (fun _ => ?_)
  refine lv_aload_n C.hx C.hb dL_careers_271 rfl (lv_at hl 0 rfl) ?_
  refine lv_iconst (v := nI 0) C.hx C.hb dL_careers_272 (by decide +kernel) ?_
  refine lv_iconst (v := nI 5) C.hx C.hb dL_careers_273 (by decide +kernel) ?_
  refine q_cO (L := S33) (L' := S33) (As := [.int (nI 0), .int (nI 5)]) C hs hP hD hS (cs_degree 0 5 (-1) (by decide +kernel)) k_X5_degree kl_L_76 rfl hl rfl rfl (Nat.le_of_ble_eq_true rfl) ⟨⟨rfl, rfl⟩, Nat.le_of_ble_eq_true rfl, Nat.le_of_ble_eq_true rfl⟩ ⟨Nat.le_of_ble_eq_true rfl, Nat.le_of_ble_eq_true rfl⟩ dL_careers_274 (fun g z H locs hs hP hD hS => ?_)
  refine lv_iconst (v := -1) C.hx C.hb dL_careers_277 (by decide +kernel) ?_
  refine lv_icmp_ne (tgt := 406) C.hx C.hb dL_careers_278 (by decide) (fun c9 => absurd c9 (by decide +kernel)) (fun _ => ?_)
  refine lv_aload_n C.hx C.hb dL_careers_281 rfl (lv_at hl 0 rfl) ?_
  refine lv_iconst (v := nI 1) C.hx C.hb dL_careers_282 (by decide +kernel) ?_
  refine lv_iconst (v := nI 4) C.hx C.hb dL_careers_283 (by decide +kernel) ?_
  refine q_cO (L := S33) (L' := S34) (As := [.int (nI 1), .int (nI 4)]) C hs hP hD hS (cs_kin S34 1 4 false (by decide +kernel)) k_X5_kin kl_L_73 rfl hl rfl rfl (Nat.le_of_ble_eq_true rfl) ⟨⟨rfl, rfl⟩, Nat.le_of_ble_eq_true rfl, Nat.le_of_ble_eq_true rfl⟩ ⟨Nat.le_of_ble_eq_true rfl, Nat.le_of_ble_eq_true rfl⟩ dL_careers_284 (fun g z H locs hs hP hD hS => ?_)
  refine lv_if_ne (tgt := 406) C.hx C.hb dL_careers_287 (by decide) (fun c9 => absurd c9 (by decide +kernel)) (fun _ => ?_)
  refine lv_aload_n C.hx C.hb dL_careers_290 rfl (lv_at hl 0 rfl) ?_
  refine lv_iconst (v := nI 0) C.hx C.hb dL_careers_291 (by decide +kernel) ?_
  refine lv_iconst (v := nI 5) C.hx C.hb dL_careers_292 (by decide +kernel) ?_
  refine q_cO (L := S34) (L' := S34) (As := [.int (nI 0), .int (nI 5)]) C hs hP hD hS (cs_degree 0 5 (nI 2) (by decide +kernel)) k_X5_degree kl_L_76 rfl hl rfl rfl (Nat.le_of_ble_eq_true rfl) ⟨⟨rfl, rfl⟩, Nat.le_of_ble_eq_true rfl, Nat.le_of_ble_eq_true rfl⟩ ⟨Nat.le_of_ble_eq_true rfl, Nat.le_of_ble_eq_true rfl⟩ dL_careers_293 (fun g z H locs hs hP hD hS => ?_)
  refine lv_iconst (v := nI 2) C.hx C.hb dL_careers_296 (by decide +kernel) ?_
  refine lv_icmp_ne (tgt := 406) C.hx C.hb dL_careers_297 (by decide) (fun c9 => absurd c9 (by decide +kernel)) (fun _ => ?_)
  refine lv_aload_n C.hx C.hb dL_careers_300 rfl (lv_at hl 0 rfl) ?_
  refine lv_iconst (v := nI 5) C.hx C.hb dL_careers_301 (by decide +kernel) ?_
  refine lv_iconst (v := nI 1) C.hx C.hb dL_careers_302 (by decide +kernel) ?_
  refine q_cO (L := S34) (L' := S34) (As := [.int (nI 5), .int (nI 1)]) C hs hP hD hS (cs_degree 5 1 (nI 2) (by decide +kernel)) k_X5_degree kl_L_76 rfl hl rfl rfl (Nat.le_of_ble_eq_true rfl) ⟨⟨rfl, rfl⟩, Nat.le_of_ble_eq_true rfl, Nat.le_of_ble_eq_true rfl⟩ ⟨Nat.le_of_ble_eq_true rfl, Nat.le_of_ble_eq_true rfl⟩ dL_careers_303 (fun g z H locs hs hP hD hS => ?_)
  refine lv_iconst (v := nI 2) C.hx C.hb dL_careers_306 (by decide +kernel) ?_
  refine lv_icmp_ne (tgt := 406) C.hx C.hb dL_careers_307 (by decide) (fun c9 => absurd c9 (by decide +kernel)) (fun _ => ?_)
  refine lv_aload_n C.hx C.hb dL_careers_310 rfl (lv_at hl 0 rfl) ?_
  refine lv_iconst (v := nI 1) C.hx C.hb dL_careers_311 (by decide +kernel) ?_
  refine lv_iconst (v := nI 2) C.hx C.hb dL_careers_312 (by decide +kernel) ?_
  refine q_cO (L := S34) (L' := S34) (As := [.int (nI 1), .int (nI 2)]) C hs hP hD hS (cs_degree 1 2 (nI 0) (by decide +kernel)) k_X5_degree kl_L_76 rfl hl rfl rfl (Nat.le_of_ble_eq_true rfl) ⟨⟨rfl, rfl⟩, Nat.le_of_ble_eq_true rfl, Nat.le_of_ble_eq_true rfl⟩ ⟨Nat.le_of_ble_eq_true rfl, Nat.le_of_ble_eq_true rfl⟩ dL_careers_313 (fun g z H locs hs hP hD hS => ?_)
  refine lv_if_ne (tgt := 406) C.hx C.hb dL_careers_316 (by decide) (fun c9 => absurd c9 (by decide +kernel)) (fun _ => ?_)
  refine lv_aload_n C.hx C.hb dL_careers_319 rfl (lv_at hl 0 rfl) ?_
  refine lv_bipush (v := nI 7) C.hx C.hb dL_careers_320 (by decide +kernel) ?_
  refine lv_bipush (v := nI 7) C.hx C.hb dL_careers_322 (by decide +kernel) ?_
  refine q_cO (L := S34) (L' := S34) (As := [.int (nI 7), .int (nI 7)]) C hs hP hD hS (cs_degree 7 7 (nI 0) (by decide +kernel)) k_X5_degree kl_L_76 rfl hl rfl rfl (Nat.le_of_ble_eq_true rfl) ⟨⟨rfl, rfl⟩, Nat.le_of_ble_eq_true rfl, Nat.le_of_ble_eq_true rfl⟩ ⟨Nat.le_of_ble_eq_true rfl, Nat.le_of_ble_eq_true rfl⟩ dL_careers_324 (fun g z H locs hs hP hD hS => ?_)
  refine lv_if_ne (tgt := 406) C.hx C.hb dL_careers_327 (by decide) (fun c9 => absurd c9 (by decide +kernel)) (fun _ => ?_)
  refine lv_aload_n C.hx C.hb dL_careers_330 rfl (lv_at hl 0 rfl) ?_
  refine lv_bipush (v := nI 7) C.hx C.hb dL_careers_331 (by decide +kernel) ?_
  refine lv_iconst (v := nI 0) C.hx C.hb dL_careers_333 (by decide +kernel) ?_
  refine q_cO (L := S34) (L' := S34) (As := [.int (nI 7), .int (nI 0)]) C hs hP hD hS (cs_degree 7 0 (-1) (by decide +kernel)) k_X5_degree kl_L_76 rfl hl rfl rfl (Nat.le_of_ble_eq_true rfl) ⟨⟨rfl, rfl⟩, Nat.le_of_ble_eq_true rfl, Nat.le_of_ble_eq_true rfl⟩ ⟨Nat.le_of_ble_eq_true rfl, Nat.le_of_ble_eq_true rfl⟩ dL_careers_334 (fun g z H locs hs hP hD hS => ?_)
  refine lv_iconst (v := -1) C.hx C.hb dL_careers_337 (by decide +kernel) ?_
  refine lv_icmp_ne (tgt := 406) C.hx C.hb dL_careers_338 (by decide) (fun c9 => absurd c9 (by decide +kernel)) (fun _ => ?_)
  exact kk g z H locs ls hs hP hD hS hl

set_option maxRecDepth 100000 in
set_option maxHeartbeats 4000000 in
theorem tr_careers_end {p : Program} {l : Launch} {e : Env} {s : State} {m : MethodId} {args : Array Value} {below : List Frame} {meth : Method} {c : Code} {D : va_G} {cA : ClassId} {A : Nat → Prop} {ad : Nat → Nat} (C : lcx p l s m c cL_careers 1 D cA A) (hr : meth.sig.returnType = some .boolean) (hlk : meth.locks = false) : ∀ (g : Nat → Nat → Int32) (z : Nat → Nat) (H : Heap) (locs : List Loc) (ls : Array Slot), isL S34 g z → va_P D vwCl (rlW cA ad g z) H → va_D A (rlW cA ad g z) → va_S A s.heap H locs → lv_has ls 1 [(0, .ref (ad 70))] → W p l e rm_Lcareers s m args below meth c H locs 0 0 (q_GL D (nI 1) (q_BG cA ad (isL S36)) A below args s 600 4000) (F0 m 341 ls []) := by
  intro g z H locs ls hs hP hD hS hl
  refine lv_aload_n C.hx C.hb dL_careers_341 rfl (lv_at hl 0 rfl) ?_
  refine lv_iconst (v := nI 0) C.hx C.hb dL_careers_342 (by decide +kernel) ?_
  refine lv_iconst (v := nI 2) C.hx C.hb dL_careers_343 (by decide +kernel) ?_
  refine q_cO (L := S34) (L' := S35) (As := [.int (nI 0), .int (nI 2)]) C hs hP hD hS (cs_kin S35 0 2 false (by decide +kernel)) k_X5_kin kl_L_73 rfl hl rfl rfl (Nat.le_of_ble_eq_true rfl) ⟨⟨rfl, rfl⟩, Nat.le_of_ble_eq_true rfl, Nat.le_of_ble_eq_true rfl⟩ ⟨Nat.le_of_ble_eq_true rfl, Nat.le_of_ble_eq_true rfl⟩ dL_careers_344 (fun g z H locs hs hP hD hS => ?_)
  refine lv_if_ne (tgt := 406) C.hx C.hb dL_careers_347 (by decide) (fun c9 => absurd c9 (by decide +kernel)) (fun _ => ?_)
  refine lv_aload_n C.hx C.hb dL_careers_350 rfl (lv_at hl 0 rfl) ?_
  refine lv_iconst (v := nI 0) C.hx C.hb dL_careers_351 (by decide +kernel) ?_
  refine lv_iconst (v := nI 0) C.hx C.hb dL_careers_352 (by decide +kernel) ?_
  refine q_cO (L := S35) (L' := S35) (As := [.int (nI 0), .int (nI 0)]) C hs hP hD hS (cs_degree 0 0 (nI 0) (by decide +kernel)) k_X5_degree kl_L_76 rfl hl rfl rfl (Nat.le_of_ble_eq_true rfl) ⟨⟨rfl, rfl⟩, Nat.le_of_ble_eq_true rfl, Nat.le_of_ble_eq_true rfl⟩ ⟨Nat.le_of_ble_eq_true rfl, Nat.le_of_ble_eq_true rfl⟩ dL_careers_353 (fun g z H locs hs hP hD hS => ?_)
  refine lv_if_ne (tgt := 406) C.hx C.hb dL_careers_356 (by decide) (fun c9 => absurd c9 (by decide +kernel)) (fun _ => ?_)
  refine lv_aload_n C.hx C.hb dL_careers_359 rfl (lv_at hl 0 rfl) ?_
  refine lv_iconst (v := nI 5) C.hx C.hb dL_careers_360 (by decide +kernel) ?_
  refine lv_iconst (v := nI 1) C.hx C.hb dL_careers_361 (by decide +kernel) ?_
  refine q_cO (L := S35) (L' := S36) (As := [.int (nI 5), .int (nI 1)]) C hs hP hD hS (cs_kin S36 5 1 false (by decide +kernel)) k_X5_kin kl_L_73 rfl hl rfl rfl (Nat.le_of_ble_eq_true rfl) ⟨⟨rfl, rfl⟩, Nat.le_of_ble_eq_true rfl, Nat.le_of_ble_eq_true rfl⟩ ⟨Nat.le_of_ble_eq_true rfl, Nat.le_of_ble_eq_true rfl⟩ dL_careers_362 (fun g z H locs hs hP hD hS => ?_)
  refine lv_if_ne (tgt := 406) C.hx C.hb dL_careers_365 (by decide) (fun c9 => absurd c9 (by decide +kernel)) (fun _ => ?_)
  refine lv_aload_n C.hx C.hb dL_careers_368 rfl (lv_at hl 0 rfl) ?_
  refine lv_bipush (v := nI 7) C.hx C.hb dL_careers_369 (by decide +kernel) ?_
  refine lv_iconst (v := nI 0) C.hx C.hb dL_careers_371 (by decide +kernel) ?_
  refine q_cO (L := S36) (L' := S36) (As := [.int (nI 7), .int (nI 0)]) C hs hP hD hS (cs_degree 7 0 (nI 3) (by decide +kernel)) k_X5_degree kl_L_76 rfl hl rfl rfl (Nat.le_of_ble_eq_true rfl) ⟨⟨rfl, rfl⟩, Nat.le_of_ble_eq_true rfl, Nat.le_of_ble_eq_true rfl⟩ ⟨Nat.le_of_ble_eq_true rfl, Nat.le_of_ble_eq_true rfl⟩ dL_careers_372 (fun g z H locs hs hP hD hS => ?_)
  refine lv_iconst (v := nI 3) C.hx C.hb dL_careers_375 (by decide +kernel) ?_
  refine lv_icmp_ne (tgt := 406) C.hx C.hb dL_careers_376 (by decide) (fun c9 => absurd c9 (by decide +kernel)) (fun _ => ?_)
  refine lv_aload_n C.hx C.hb dL_careers_379 rfl (lv_at hl 0 rfl) ?_
  refine lv_bipush (v := nI 6) C.hx C.hb dL_careers_380 (by decide +kernel) ?_
  refine lv_bipush (v := nI 7) C.hx C.hb dL_careers_382 (by decide +kernel) ?_
  refine q_cO (L := S36) (L' := S36) (As := [.int (nI 6), .int (nI 7)]) C hs hP hD hS (cs_degree 6 7 (nI 3) (by decide +kernel)) k_X5_degree kl_L_76 rfl hl rfl rfl (Nat.le_of_ble_eq_true rfl) ⟨⟨rfl, rfl⟩, Nat.le_of_ble_eq_true rfl, Nat.le_of_ble_eq_true rfl⟩ ⟨Nat.le_of_ble_eq_true rfl, Nat.le_of_ble_eq_true rfl⟩ dL_careers_384 (fun g z H locs hs hP hD hS => ?_)
  refine lv_iconst (v := nI 3) C.hx C.hb dL_careers_387 (by decide +kernel) ?_
  refine lv_icmp_ne (tgt := 406) C.hx C.hb dL_careers_388 (by decide) (fun c9 => absurd c9 (by decide +kernel)) (fun _ => ?_)
  refine lv_aload_n C.hx C.hb dL_careers_391 rfl (lv_at hl 0 rfl) ?_
  refine lv_bipush (v := nI 6) C.hx C.hb dL_careers_392 (by decide +kernel) ?_
  refine lv_bipush (v := nI 8) C.hx C.hb dL_careers_394 (by decide +kernel) ?_
  refine q_cP (L := S36) (L' := S36) (r := nI 1) (c2 := 500) (s2 := 3000) (As := [.int (nI 6), .int (nI 8)]) C hs hP hD hS (cs_Lrefuses C.htr 6 8 (by decide +kernel)) k_L_refuses kl_L_109 hl rfl rfl (Nat.le_of_ble_eq_true rfl) ⟨Nat.le_of_ble_eq_true rfl, Nat.le_of_ble_eq_true rfl⟩ ⟨Nat.le_of_ble_eq_true rfl, Nat.le_of_ble_eq_true rfl⟩ ⟨Nat.le_of_ble_eq_true rfl, Nat.le_of_ble_eq_true rfl⟩ dL_careers_396 (fun g z H locs hs hP hD hS => ?_)
  refine lv_if_eq (tgt := 406) C.hx C.hb dL_careers_399 (by decide) (fun c9 => absurd c9 (by decide +kernel)) (fun _ => ?_)
  refine lv_iconst (v := nI 1) C.hx C.hb dL_careers_402 (by decide +kernel) ?_
  refine lv_goto (tgt := 407) C.hx C.hb dL_careers_403 (by decide) ?_
  exact q_lzret C.hx C.hb hr hlk (Or.inr rfl) rfl ⟨g, z, rfl, hs⟩ hP hS (Nat.le_of_ble_eq_true rfl) (Nat.le_of_ble_eq_true rfl) dL_careers_407

theorem t_careers {l : Launch} (htr : l.stackTraces = false) {D : va_G} {cA : ClassId} {ad : Nat → Nat} : csl l yL_careers [Cond.code yL_careers cL_careers 1 (some .boolean)] rm_Lcareers D cA ad [] S26 S36 (nI 1) := by
  intro g z hs
  refine q_startP RL (by decide +kernel) rfl (Nat.le_of_ble_eq_true rfl) ?_
  intro p e s m below meth c A args H locs ls hx hb hr hml hown hT hlk hP hK hD hA hS hl hX hN hZ
  have C : lcx p l s m c cL_careers 1 D cA A := ⟨hx, hb, hml, hown, hT, hK, hA, hX, hN, hZ, htr⟩
  exact tr_careers_0 C (tr_careers_1 C (tr_careers_2 C (tr_careers_end C hr hlk))) g z H locs ls hs hP hD hS hl

