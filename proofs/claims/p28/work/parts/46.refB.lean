abbrev rm_Lr : Room := { frames := 10, cells := 500, slots := 3000, locals := 210 }
theorem df_SR {l : Launch} {D : va_G} {cA : ClassId} {ad : Nat → Nat} {g0 g : Nat → Nat → Int32} {z : Nat → Nat} {a t b : Nat} (hs : SR g0 a t b g z) : q_CI l yX5_differ [Cond.code yX5_differ cX5_differ 5 (some .int)] rm_X5_differ D cA [.ref (ad 70)] (rlW cA ad g z) (nI (dfO g0 a a)) (rlW cA ad g z) := by
  have c5 := c_X5_differ l D cA ad g z hs.2.2.2.2.hz0
  rw [hs.2.1, dfO_cg (g' := g) (g := g0) (hs.1 4 rfl) (hs.1 22 rfl)] at c5
  exact c5
set_option maxRecDepth 100000 in
set_option maxHeartbeats 4000000 in
theorem tf_0 {p : Program} {l : Launch} {e : Env} {s : State} {m : MethodId} {args : Array Value} {below : List Frame} {meth : Method} {c : Code} {D : va_G} {cA : ClassId} {A : Nat → Prop} {ad : Nat → Nat} {Q : State → Prop} {g0 : Nat → Nat → Int32} {a t b : Nat} (ha : a ≤ 16) (hb9 : b ≤ 40) (hab : 0 < a → 0 < b) (C : lcx p l s m c cL_refuses 16 D cA A) (kk : ∀ (g : Nat → Nat → Int32) (z : Nat → Nat) (H : Heap) (locs : List Loc) (ls : Array Slot), SR g0 a t b g z → va_P D vwCl (rlW cA ad g z) H → va_D A (rlW cA ad g z) → va_S A s.heap H locs → lv_has ls 16 [(11, .int (-1)), (10, .int (-1)), (9, .int (-1)), (8, .int (-1)), (7, .int (-2)), (6, .int (-1)), (5, .int (nI 0)), (4, .int (nI (dfO g0 a a))), (3, .int (nI 2147483647)), (0, .ref (ad 70)), (1, .int (nI a)), (2, .int (nI b))] → W p l e rm_Lr s m args below meth c H locs 2 12 Q (F0 m 169 ls [])) : ∀ (g : Nat → Nat → Int32) (z : Nat → Nat) (H : Heap) (locs : List Loc) (ls : Array Slot), SR g0 a t b g z → va_P D vwCl (rlW cA ad g z) H → va_D A (rlW cA ad g z) → va_S A s.heap H locs → lv_has ls 16 [(0, .ref (ad 70)), (1, .int (nI a)), (2, .int (nI b))] → W p l e rm_Lr s m args below meth c H locs 0 0 Q (F0 m 0 ls []) := by
  intro g z H locs ls hs hP hD hS hl
  refine lv_ldc (v := 2147483647) C.hx C.hb C.hown (C.hT.use kk_L_97 args) dL_refuses_0 ?_
  refine q_top (y := nI 2147483647) (by decide +kernel) ?_
  refine lv_istore_n (lv' := [(3, .int (nI 2147483647)), (0, .ref (ad 70)), (1, .int (nI a)), (2, .int (nI b))]) C.hx C.hb dL_refuses_2 rfl hl (by decide) rfl (fun ls hl => ?_)
  refine lv_aload_n C.hx C.hb dL_refuses_3 rfl (lv_at hl 1 rfl) ?_
  refine q_callIW (As := []) (r := nI (dfO g0 a a)) C.hx C.hb C.hml C.hown C.hT C.hK hP hD hS C.hA (df_SR hs) k_X5_differ kl_L_98 (q0 := 0) (ci := 5) rfl rfl rfl rfl hl rfl rfl (Nat.le_of_ble_eq_true rfl) ⟨⟨rfl, rfl⟩, Nat.le_of_ble_eq_true rfl, Nat.le_of_ble_eq_true rfl⟩ ⟨Nat.le_of_ble_eq_true rfl, Nat.le_of_ble_eq_true rfl⟩ dL_refuses_4 (fun H locs hP hD hS => ?_)
  refine lv_istore (lv' := [(4, .int (nI (dfO g0 a a))), (3, .int (nI 2147483647)), (0, .ref (ad 70)), (1, .int (nI a)), (2, .int (nI b))]) C.hx C.hb dL_refuses_7 hl (by decide) rfl (fun ls hl => ?_)
  refine lv_iconst (v := nI 0) C.hx C.hb dL_refuses_9 (by decide +kernel) ?_
  refine lv_istore (lv' := [(5, .int (nI 0)), (4, .int (nI (dfO g0 a a))), (3, .int (nI 2147483647)), (0, .ref (ad 70)), (1, .int (nI a)), (2, .int (nI b))]) C.hx C.hb dL_refuses_10 hl (by decide) rfl (fun ls hl => ?_)
  refine lv_iload C.hx C.hb dL_refuses_12 (lv_at hl 0 rfl) ?_
  refine lv_iconst (v := nI 4) C.hx C.hb dL_refuses_14 (by decide +kernel) ?_
  refine lv_icmp_ge (tgt := 951) C.hx C.hb dL_refuses_15 (by decide) (fun c9 => absurd c9 (by decide +kernel)) (fun _ => ?_)
  refine lv_iload C.hx C.hb dL_refuses_18 (lv_at hl 0 rfl) ?_
  refine lv_if_ne (tgt := 27) C.hx C.hb dL_refuses_20 (by decide) (fun c9 => absurd c9 (by decide +kernel)) (fun _ => ?_)
  refine lv_iconst (v := -1) C.hx C.hb dL_refuses_23 (by decide +kernel) ?_
  refine lv_goto (tgt := 41) C.hx C.hb dL_refuses_24 (by decide) ?_
  refine lv_istore (lv' := [(6, .int (-1)), (5, .int (nI 0)), (4, .int (nI (dfO g0 a a))), (3, .int (nI 2147483647)), (0, .ref (ad 70)), (1, .int (nI a)), (2, .int (nI b))]) C.hx C.hb dL_refuses_41 hl (by decide) rfl (fun ls hl => ?_)
  refine lv_iload C.hx C.hb dL_refuses_43 (lv_at hl 1 rfl) ?_
  refine lv_if_ne (tgt := 53) C.hx C.hb dL_refuses_45 (by decide) (fun c9 => absurd c9 (by decide +kernel)) (fun _ => ?_)
  refine lv_bipush (v := -2) C.hx C.hb dL_refuses_48 (by decide +kernel) ?_
  refine lv_goto (tgt := 67) C.hx C.hb dL_refuses_50 (by decide) ?_
  refine lv_istore (lv' := [(7, .int (-2)), (6, .int (-1)), (5, .int (nI 0)), (4, .int (nI (dfO g0 a a))), (3, .int (nI 2147483647)), (0, .ref (ad 70)), (1, .int (nI a)), (2, .int (nI b))]) C.hx C.hb dL_refuses_67 hl (by decide) rfl (fun ls hl => ?_)
  refine lv_iload C.hx C.hb dL_refuses_69 (lv_at hl 2 rfl) ?_
  refine lv_iconst (v := nI 1) C.hx C.hb dL_refuses_71 (by decide +kernel) ?_
  refine lv_icmp_ne (tgt := 79) C.hx C.hb dL_refuses_72 (by decide) (fun _ => ?_) (fun c9 => absurd c9 (by decide +kernel))
  refine lv_iload C.hx C.hb dL_refuses_79 (lv_at hl 1 rfl) ?_
  refine lv_istore (lv' := [(8, .int (-1)), (7, .int (-2)), (6, .int (-1)), (5, .int (nI 0)), (4, .int (nI (dfO g0 a a))), (3, .int (nI 2147483647)), (0, .ref (ad 70)), (1, .int (nI a)), (2, .int (nI b))]) C.hx C.hb dL_refuses_81 hl (by decide) rfl (fun ls hl => ?_)
  refine lv_iload C.hx C.hb dL_refuses_83 (lv_at hl 3 rfl) ?_
  refine lv_iconst (v := nI 1) C.hx C.hb dL_refuses_85 (by decide +kernel) ?_
  refine lv_icmp_ne (tgt := 93) C.hx C.hb dL_refuses_86 (by decide) (fun _ => ?_) (fun c9 => absurd c9 (by decide +kernel))
  refine lv_iload C.hx C.hb dL_refuses_93 (lv_at hl 2 rfl) ?_
  refine lv_istore (lv' := [(9, .int (-1)), (8, .int (-1)), (7, .int (-2)), (6, .int (-1)), (5, .int (nI 0)), (4, .int (nI (dfO g0 a a))), (3, .int (nI 2147483647)), (0, .ref (ad 70)), (1, .int (nI a)), (2, .int (nI b))]) C.hx C.hb dL_refuses_95 hl (by decide) rfl (fun ls hl => ?_)
  refine lv_iload C.hx C.hb dL_refuses_97 (lv_at hl 4 rfl) ?_
  refine lv_iconst (v := nI 1) C.hx C.hb dL_refuses_99 (by decide +kernel) ?_
  refine lv_icmp_ne (tgt := 108) C.hx C.hb dL_refuses_100 (by decide) (fun _ => ?_) (fun c9 => absurd c9 (by decide +kernel))
  refine lv_iload C.hx C.hb dL_refuses_108 (lv_at hl 3 rfl) ?_
  refine lv_istore (lv' := [(10, .int (-1)), (9, .int (-1)), (8, .int (-1)), (7, .int (-2)), (6, .int (-1)), (5, .int (nI 0)), (4, .int (nI (dfO g0 a a))), (3, .int (nI 2147483647)), (0, .ref (ad 70)), (1, .int (nI a)), (2, .int (nI b))]) C.hx C.hb dL_refuses_110 hl (by decide) rfl (fun ls hl => ?_)
  refine lv_iload C.hx C.hb dL_refuses_112 (lv_at hl 5 rfl) ?_
  refine lv_iconst (v := nI 1) C.hx C.hb dL_refuses_114 (by decide +kernel) ?_
  refine lv_icmp_ne (tgt := 123) C.hx C.hb dL_refuses_115 (by decide) (fun _ => ?_) (fun c9 => absurd c9 (by decide +kernel))
  refine lv_iload C.hx C.hb dL_refuses_123 (lv_at hl 4 rfl) ?_
  refine lv_istore (lv' := [(11, .int (-1)), (10, .int (-1)), (9, .int (-1)), (8, .int (-1)), (7, .int (-2)), (6, .int (-1)), (5, .int (nI 0)), (4, .int (nI (dfO g0 a a))), (3, .int (nI 2147483647)), (0, .ref (ad 70)), (1, .int (nI a)), (2, .int (nI b))]) C.hx C.hb dL_refuses_125 hl (by decide) rfl (fun ls hl => ?_)
  refine lv_aload_n C.hx C.hb dL_refuses_127 rfl (lv_at hl 9 rfl) ?_
  refine lv_iconst (v := nI 0) C.hx C.hb dL_refuses_128 (by decide +kernel) ?_
  refine lv_bipush (v := nI 99) C.hx C.hb dL_refuses_129 (by decide +kernel) ?_
  refine lv_iconst (v := nI 0) C.hx C.hb dL_refuses_131 (by decide +kernel) ?_
  refine lv_iconst (v := nI 0) C.hx C.hb dL_refuses_132 (by decide +kernel) ?_
  refine lv_iload C.hx C.hb dL_refuses_133 (lv_at hl 6 rfl) ?_
  refine lv_iconst (v := nI 1) C.hx C.hb dL_refuses_135 (by decide +kernel) ?_
  refine lv_icmp_ne (tgt := 144) C.hx C.hb dL_refuses_136 (by decide) (fun _ => ?_) (fun c9 => absurd c9 (by decide +kernel))
  refine lv_iload C.hx C.hb dL_refuses_144 (lv_at hl 4 rfl) ?_
  refine q_cR (w := 0) (p0 := nI 99) (p1 := nI 0) (p2 := nI 0) (p3 := -2) (r := -7000001) (c2 := 1) (s2 := 6) C hs hP hD hS (rm_po C.htr (by decide +kernel) (notr (by decide +kernel) (by decide))) hl rfl (Nat.le_of_ble_eq_true rfl) ⟨Nat.le_of_ble_eq_true rfl, Nat.le_of_ble_eq_true rfl⟩ ⟨Nat.le_of_ble_eq_true rfl, Nat.le_of_ble_eq_true rfl⟩ ⟨Nat.le_of_ble_eq_true rfl, Nat.le_of_ble_eq_true rfl⟩ dL_refuses_146 (fun g z H locs hs hP hD hS => ?_)
  refine lv_ldc (v := -7000001) C.hx C.hb C.hown (C.hT.use kk_L_90 args) dL_refuses_149 ?_
  refine lv_icmp_ne (tgt := 453) C.hx C.hb dL_refuses_151 (by decide) (fun c9 => absurd c9 (by decide +kernel)) (fun _ => ?_)
  refine lv_aload_n C.hx C.hb dL_refuses_154 rfl (lv_at hl 9 rfl) ?_
  refine lv_iconst (v := nI 0) C.hx C.hb dL_refuses_155 (by decide +kernel) ?_
  refine lv_iload C.hx C.hb dL_refuses_156 (lv_at hl 0 rfl) ?_
  refine lv_iconst (v := nI 0) C.hx C.hb dL_refuses_158 (by decide +kernel) ?_
  refine lv_iconst (v := nI 0) C.hx C.hb dL_refuses_159 (by decide +kernel) ?_
  refine lv_iconst (v := nI 0) C.hx C.hb dL_refuses_160 (by decide +kernel) ?_
  refine q_cR (w := 0) (p0 := -1) (p1 := nI 0) (p2 := nI 0) (p3 := nI 0) (r := -7000002) (c2 := 2) (s2 := 12) C hs hP hD hS (rm_nm C.htr (Or.inr (q_r_nI (by decide))) (by decide +kernel)) hl rfl (Nat.le_of_ble_eq_true rfl) ⟨Nat.le_of_ble_eq_true rfl, Nat.le_of_ble_eq_true rfl⟩ ⟨Nat.le_of_ble_eq_true rfl, Nat.le_of_ble_eq_true rfl⟩ ⟨Nat.le_of_ble_eq_true rfl, Nat.le_of_ble_eq_true rfl⟩ dL_refuses_161 (fun g z H locs hs hP hD hS => ?_)
  refine lv_ldc (v := -7000002) C.hx C.hb C.hown (C.hT.use kk_L_93 args) dL_refuses_164 ?_
  refine lv_icmp_ne (tgt := 453) C.hx C.hb dL_refuses_166 (by decide) (fun c9 => absurd c9 (by decide +kernel)) (fun _ => ?_)
  exact kk g z H locs ls hs hP hD hS hl

set_option maxRecDepth 100000 in
set_option maxHeartbeats 4000000 in
theorem tf_1 {p : Program} {l : Launch} {e : Env} {s : State} {m : MethodId} {args : Array Value} {below : List Frame} {meth : Method} {c : Code} {D : va_G} {cA : ClassId} {A : Nat → Prop} {ad : Nat → Nat} {Q : State → Prop} {g0 : Nat → Nat → Int32} {a t b : Nat} (ha : a ≤ 16) (hb9 : b ≤ 40) (hab : 0 < a → 0 < b) (C : lcx p l s m c cL_refuses 16 D cA A) (kk : ∀ (g : Nat → Nat → Int32) (z : Nat → Nat) (H : Heap) (locs : List Loc) (ls : Array Slot), SR g0 a t b g z → va_P D vwCl (rlW cA ad g z) H → va_D A (rlW cA ad g z) → va_S A s.heap H locs → lv_has ls 16 [(11, .int (-1)), (10, .int (-1)), (9, .int (-1)), (8, .int (-1)), (7, .int (-2)), (6, .int (-1)), (5, .int (nI 0)), (4, .int (nI (dfO g0 a a))), (3, .int (nI 2147483647)), (0, .ref (ad 70)), (1, .int (nI a)), (2, .int (nI b))] → W p l e rm_Lr s m args below meth c H locs 9 54 Q (F0 m 298 ls [])) : ∀ (g : Nat → Nat → Int32) (z : Nat → Nat) (H : Heap) (locs : List Loc) (ls : Array Slot), SR g0 a t b g z → va_P D vwCl (rlW cA ad g z) H → va_D A (rlW cA ad g z) → va_S A s.heap H locs → lv_has ls 16 [(11, .int (-1)), (10, .int (-1)), (9, .int (-1)), (8, .int (-1)), (7, .int (-2)), (6, .int (-1)), (5, .int (nI 0)), (4, .int (nI (dfO g0 a a))), (3, .int (nI 2147483647)), (0, .ref (ad 70)), (1, .int (nI a)), (2, .int (nI b))] → W p l e rm_Lr s m args below meth c H locs 2 12 Q (F0 m 169 ls []) := by
  intro g z H locs ls hs hP hD hS hl
  refine lv_aload_n C.hx C.hb dL_refuses_169 rfl (lv_at hl 9 rfl) ?_
  refine lv_iconst (v := nI 0) C.hx C.hb dL_refuses_170 (by decide +kernel) ?_
  refine lv_iconst (v := nI 0) C.hx C.hb dL_refuses_171 (by decide +kernel) ?_
  refine lv_iload C.hx C.hb dL_refuses_172 (lv_at hl 6 rfl) ?_
  refine lv_iconst (v := nI 1) C.hx C.hb dL_refuses_174 (by decide +kernel) ?_
  refine lv_icmp_ne (tgt := 183) C.hx C.hb dL_refuses_175 (by decide) (fun _ => ?_) (fun c9 => absurd c9 (by decide +kernel))
  refine lv_iload C.hx C.hb dL_refuses_183 (lv_at hl 4 rfl) ?_
  refine lv_iconst (v := nI 0) C.hx C.hb dL_refuses_185 (by decide +kernel) ?_
  refine lv_iconst (v := -1) C.hx C.hb dL_refuses_186 (by decide +kernel) ?_
  refine q_cR (w := 0) (p0 := nI 0) (p1 := -2) (p2 := nI 0) (p3 := -1) (r := -7000002) (c2 := 3) (s2 := 18) C hs hP hD hS (rm_fm C.htr (Or.inl rfl) (by decide +kernel) (by decide +kernel)) hl rfl (Nat.le_of_ble_eq_true rfl) ⟨Nat.le_of_ble_eq_true rfl, Nat.le_of_ble_eq_true rfl⟩ ⟨Nat.le_of_ble_eq_true rfl, Nat.le_of_ble_eq_true rfl⟩ ⟨Nat.le_of_ble_eq_true rfl, Nat.le_of_ble_eq_true rfl⟩ dL_refuses_187 (fun g z H locs hs hP hD hS => ?_)
  refine lv_ldc (v := -7000002) C.hx C.hb C.hown (C.hT.use kk_L_93 args) dL_refuses_190 ?_
  refine lv_icmp_ne (tgt := 453) C.hx C.hb dL_refuses_192 (by decide) (fun c9 => absurd c9 (by decide +kernel)) (fun _ => ?_)
  refine lv_aload_n C.hx C.hb dL_refuses_195 rfl (lv_at hl 9 rfl) ?_
  refine lv_iconst (v := nI 0) C.hx C.hb dL_refuses_196 (by decide +kernel) ?_
  refine lv_iconst (v := nI 0) C.hx C.hb dL_refuses_197 (by decide +kernel) ?_
  refine lv_iconst (v := nI 0) C.hx C.hb dL_refuses_198 (by decide +kernel) ?_
  refine lv_iload C.hx C.hb dL_refuses_199 (lv_at hl 6 rfl) ?_
  refine lv_iconst (v := nI 1) C.hx C.hb dL_refuses_201 (by decide +kernel) ?_
  refine lv_icmp_ne (tgt := 210) C.hx C.hb dL_refuses_202 (by decide) (fun _ => ?_) (fun c9 => absurd c9 (by decide +kernel))
  refine lv_iload C.hx C.hb dL_refuses_210 (lv_at hl 5 rfl) ?_
  refine lv_bipush (v := nI 7) C.hx C.hb dL_refuses_212 (by decide +kernel) ?_
  refine q_cR (w := 0) (p0 := nI 0) (p1 := nI 0) (p2 := -1) (p3 := nI 7) (r := -7000002) (c2 := 4) (s2 := 24) C hs hP hD hS (rm_pl C.htr (Or.inr (q_r_nI (by decide))) (by decide +kernel) (by decide +kernel) (by decide +kernel)) hl rfl (Nat.le_of_ble_eq_true rfl) ⟨Nat.le_of_ble_eq_true rfl, Nat.le_of_ble_eq_true rfl⟩ ⟨Nat.le_of_ble_eq_true rfl, Nat.le_of_ble_eq_true rfl⟩ ⟨Nat.le_of_ble_eq_true rfl, Nat.le_of_ble_eq_true rfl⟩ dL_refuses_214 (fun g z H locs hs hP hD hS => ?_)
  refine lv_ldc (v := -7000002) C.hx C.hb C.hown (C.hT.use kk_L_93 args) dL_refuses_217 ?_
  refine lv_icmp_ne (tgt := 453) C.hx C.hb dL_refuses_219 (by decide) (fun c9 => absurd c9 (by decide +kernel)) (fun _ => ?_)
  refine lv_aload_n C.hx C.hb dL_refuses_222 rfl (lv_at hl 9 rfl) ?_
  refine lv_iconst (v := nI 1) C.hx C.hb dL_refuses_223 (by decide +kernel) ?_
  refine lv_iload C.hx C.hb dL_refuses_224 (lv_at hl 1 rfl) ?_
  refine lv_bipush (v := nI 99) C.hx C.hb dL_refuses_226 (by decide +kernel) ?_
  refine lv_iconst (v := nI 0) C.hx C.hb dL_refuses_228 (by decide +kernel) ?_
  refine lv_iconst (v := nI 0) C.hx C.hb dL_refuses_229 (by decide +kernel) ?_
  refine q_cR (w := 1) (p0 := -1) (p1 := nI 99) (p2 := nI 0) (p3 := nI 0) (r := -7000001) (c2 := 5) (s2 := 30) C hs hP hD hS (rr_po C.htr (notr (by decide +kernel) (by decide))) hl rfl (Nat.le_of_ble_eq_true rfl) ⟨Nat.le_of_ble_eq_true rfl, Nat.le_of_ble_eq_true rfl⟩ ⟨Nat.le_of_ble_eq_true rfl, Nat.le_of_ble_eq_true rfl⟩ ⟨Nat.le_of_ble_eq_true rfl, Nat.le_of_ble_eq_true rfl⟩ dL_refuses_230 (fun g z H locs hs hP hD hS => ?_)
  refine lv_ldc (v := -7000001) C.hx C.hb C.hown (C.hT.use kk_L_90 args) dL_refuses_233 ?_
  refine lv_icmp_ne (tgt := 453) C.hx C.hb dL_refuses_235 (by decide) (fun c9 => absurd c9 (by decide +kernel)) (fun _ => ?_)
  refine lv_aload_n C.hx C.hb dL_refuses_238 rfl (lv_at hl 9 rfl) ?_
  refine lv_iconst (v := nI 1) C.hx C.hb dL_refuses_239 (by decide +kernel) ?_
  refine lv_iconst (v := nI 0) C.hx C.hb dL_refuses_240 (by decide +kernel) ?_
  refine lv_iload C.hx C.hb dL_refuses_241 (lv_at hl 0 rfl) ?_
  refine lv_iconst (v := nI 0) C.hx C.hb dL_refuses_243 (by decide +kernel) ?_
  refine lv_iconst (v := nI 0) C.hx C.hb dL_refuses_244 (by decide +kernel) ?_
  refine q_cR (w := 1) (p0 := nI 0) (p1 := -1) (p2 := nI 0) (p3 := nI 0) (r := -7000002) (c2 := 6) (s2 := 36) C hs hP hD hS (rr_rk C.htr (q_r_nI (by decide)) (by decide +kernel)) hl rfl (Nat.le_of_ble_eq_true rfl) ⟨Nat.le_of_ble_eq_true rfl, Nat.le_of_ble_eq_true rfl⟩ ⟨Nat.le_of_ble_eq_true rfl, Nat.le_of_ble_eq_true rfl⟩ ⟨Nat.le_of_ble_eq_true rfl, Nat.le_of_ble_eq_true rfl⟩ dL_refuses_245 (fun g z H locs hs hP hD hS => ?_)
  refine lv_ldc (v := -7000002) C.hx C.hb C.hown (C.hT.use kk_L_93 args) dL_refuses_248 ?_
  refine lv_icmp_ne (tgt := 453) C.hx C.hb dL_refuses_250 (by decide) (fun c9 => absurd c9 (by decide +kernel)) (fun _ => ?_)
  refine lv_aload_n C.hx C.hb dL_refuses_253 rfl (lv_at hl 9 rfl) ?_
  refine lv_iconst (v := nI 2) C.hx C.hb dL_refuses_254 (by decide +kernel) ?_
  refine lv_iload C.hx C.hb dL_refuses_255 (lv_at hl 1 rfl) ?_
  refine lv_iload C.hx C.hb dL_refuses_257 (lv_at hl 1 rfl) ?_
  refine lv_iconst (v := nI 1) C.hx C.hb dL_refuses_259 (by decide +kernel) ?_
  refine lv_iconst (v := nI 0) C.hx C.hb dL_refuses_260 (by decide +kernel) ?_
  refine q_cR (w := 2) (p0 := -1) (p1 := -1) (p2 := nI 1) (p3 := nI 0) (r := -7000001) (c2 := 7) (s2 := 42) C hs hP hD hS (rb_1 C.htr (notr (by decide +kernel) (by decide))) hl rfl (Nat.le_of_ble_eq_true rfl) ⟨Nat.le_of_ble_eq_true rfl, Nat.le_of_ble_eq_true rfl⟩ ⟨Nat.le_of_ble_eq_true rfl, Nat.le_of_ble_eq_true rfl⟩ ⟨Nat.le_of_ble_eq_true rfl, Nat.le_of_ble_eq_true rfl⟩ dL_refuses_261 (fun g z H locs hs hP hD hS => ?_)
  refine lv_ldc (v := -7000001) C.hx C.hb C.hown (C.hT.use kk_L_90 args) dL_refuses_264 ?_
  refine lv_icmp_ne (tgt := 453) C.hx C.hb dL_refuses_266 (by decide) (fun c9 => absurd c9 (by decide +kernel)) (fun _ => ?_)
  refine lv_aload_n C.hx C.hb dL_refuses_269 rfl (lv_at hl 9 rfl) ?_
  refine lv_iconst (v := nI 2) C.hx C.hb dL_refuses_270 (by decide +kernel) ?_
  refine lv_iconst (v := nI 0) C.hx C.hb dL_refuses_271 (by decide +kernel) ?_
  refine lv_iload C.hx C.hb dL_refuses_272 (lv_at hl 1 rfl) ?_
  refine lv_iconst (v := nI 1) C.hx C.hb dL_refuses_274 (by decide +kernel) ?_
  refine lv_iconst (v := nI 0) C.hx C.hb dL_refuses_275 (by decide +kernel) ?_
  refine q_cR (w := 2) (p0 := nI 0) (p1 := -1) (p2 := nI 1) (p3 := nI 0) (r := -7000001) (c2 := 8) (s2 := 48) C hs hP hD hS (rb_2 C.htr (q_r_nI (by decide)) (notr (by decide +kernel) (by decide))) hl rfl (Nat.le_of_ble_eq_true rfl) ⟨Nat.le_of_ble_eq_true rfl, Nat.le_of_ble_eq_true rfl⟩ ⟨Nat.le_of_ble_eq_true rfl, Nat.le_of_ble_eq_true rfl⟩ ⟨Nat.le_of_ble_eq_true rfl, Nat.le_of_ble_eq_true rfl⟩ dL_refuses_276 (fun g z H locs hs hP hD hS => ?_)
  refine lv_ldc (v := -7000001) C.hx C.hb C.hown (C.hT.use kk_L_90 args) dL_refuses_279 ?_
  refine lv_icmp_ne (tgt := 453) C.hx C.hb dL_refuses_281 (by decide) (fun c9 => absurd c9 (by decide +kernel)) (fun _ => ?_)
  refine lv_aload_n C.hx C.hb dL_refuses_284 rfl (lv_at hl 9 rfl) ?_
  refine lv_iconst (v := nI 2) C.hx C.hb dL_refuses_285 (by decide +kernel) ?_
  refine lv_iconst (v := nI 3) C.hx C.hb dL_refuses_286 (by decide +kernel) ?_
  refine lv_iconst (v := nI 3) C.hx C.hb dL_refuses_287 (by decide +kernel) ?_
  refine lv_iconst (v := nI 1) C.hx C.hb dL_refuses_288 (by decide +kernel) ?_
  refine lv_iconst (v := nI 0) C.hx C.hb dL_refuses_289 (by decide +kernel) ?_
  refine q_cR (w := 2) (p0 := nI 3) (p1 := nI 3) (p2 := nI 1) (p3 := nI 0) (r := -7000002) (c2 := 9) (s2 := 54) C hs hP hD hS (rb_3 C.htr (q_r_nI (by decide))) hl rfl (Nat.le_of_ble_eq_true rfl) ⟨Nat.le_of_ble_eq_true rfl, Nat.le_of_ble_eq_true rfl⟩ ⟨Nat.le_of_ble_eq_true rfl, Nat.le_of_ble_eq_true rfl⟩ ⟨Nat.le_of_ble_eq_true rfl, Nat.le_of_ble_eq_true rfl⟩ dL_refuses_290 (fun g z H locs hs hP hD hS => ?_)
  refine lv_ldc (v := -7000002) C.hx C.hb C.hown (C.hT.use kk_L_93 args) dL_refuses_293 ?_
  refine lv_icmp_ne (tgt := 453) C.hx C.hb dL_refuses_295 (by decide) (fun c9 => absurd c9 (by decide +kernel)) (fun _ => ?_)
  exact kk g z H locs ls hs hP hD hS hl

set_option maxRecDepth 100000 in
set_option maxHeartbeats 4000000 in
theorem tf_2 {p : Program} {l : Launch} {e : Env} {s : State} {m : MethodId} {args : Array Value} {below : List Frame} {meth : Method} {c : Code} {D : va_G} {cA : ClassId} {A : Nat → Prop} {ad : Nat → Nat} {Q : State → Prop} {g0 : Nat → Nat → Int32} {a t b : Nat} (ha : a ≤ 16) (hb9 : b ≤ 40) (hab : 0 < a → 0 < b) (C : lcx p l s m c cL_refuses 16 D cA A) (kk : ∀ (g : Nat → Nat → Int32) (z : Nat → Nat) (H : Heap) (locs : List Loc) (ls : Array Slot), SR g0 a t b g z → va_P D vwCl (rlW cA ad g z) H → va_D A (rlW cA ad g z) → va_S A s.heap H locs → lv_has ls 16 [(11, .int (-1)), (10, .int (-1)), (9, .int (-1)), (8, .int (-1)), (7, .int (-2)), (6, .int (-1)), (5, .int (nI 0)), (4, .int (nI (dfO g0 a a))), (3, .int (nI 2147483647)), (0, .ref (ad 70)), (1, .int (nI a)), (2, .int (nI b))] → W p l e rm_Lr s m args below meth c H locs 16 96 Q (F0 m 432 ls [])) : ∀ (g : Nat → Nat → Int32) (z : Nat → Nat) (H : Heap) (locs : List Loc) (ls : Array Slot), SR g0 a t b g z → va_P D vwCl (rlW cA ad g z) H → va_D A (rlW cA ad g z) → va_S A s.heap H locs → lv_has ls 16 [(11, .int (-1)), (10, .int (-1)), (9, .int (-1)), (8, .int (-1)), (7, .int (-2)), (6, .int (-1)), (5, .int (nI 0)), (4, .int (nI (dfO g0 a a))), (3, .int (nI 2147483647)), (0, .ref (ad 70)), (1, .int (nI a)), (2, .int (nI b))] → W p l e rm_Lr s m args below meth c H locs 9 54 Q (F0 m 298 ls []) := by
  intro g z H locs ls hs hP hD hS hl
  refine lv_aload_n C.hx C.hb dL_refuses_298 rfl (lv_at hl 9 rfl) ?_
  refine lv_iconst (v := nI 4) C.hx C.hb dL_refuses_299 (by decide +kernel) ?_
  refine lv_iload C.hx C.hb dL_refuses_300 (lv_at hl 3 rfl) ?_
  refine lv_iconst (v := nI 5) C.hx C.hb dL_refuses_302 (by decide +kernel) ?_
  refine lv_iconst (v := nI 4) C.hx C.hb dL_refuses_303 (by decide +kernel) ?_
  refine lv_iconst (v := nI 0) C.hx C.hb dL_refuses_304 (by decide +kernel) ?_
  refine q_cR (w := 4) (p0 := -1) (p1 := nI 5) (p2 := nI 4) (p3 := nI 0) (r := -7000001) (c2 := 10) (s2 := 60) C hs hP hD hS (ri_find C.htr (notr (by decide +kernel) (by omega))) hl rfl (Nat.le_of_ble_eq_true rfl) ⟨Nat.le_of_ble_eq_true rfl, Nat.le_of_ble_eq_true rfl⟩ ⟨Nat.le_of_ble_eq_true rfl, Nat.le_of_ble_eq_true rfl⟩ ⟨Nat.le_of_ble_eq_true rfl, Nat.le_of_ble_eq_true rfl⟩ dL_refuses_305 (fun g z H locs hs hP hD hS => ?_)
  refine lv_ldc (v := -7000001) C.hx C.hb C.hown (C.hT.use kk_L_90 args) dL_refuses_308 ?_
  refine lv_icmp_ne (tgt := 453) C.hx C.hb dL_refuses_310 (by decide) (fun c9 => absurd c9 (by decide +kernel)) (fun _ => ?_)
  refine lv_aload_n C.hx C.hb dL_refuses_313 rfl (lv_at hl 9 rfl) ?_
  refine lv_iconst (v := nI 5) C.hx C.hb dL_refuses_314 (by decide +kernel) ?_
  refine lv_iload C.hx C.hb dL_refuses_315 (lv_at hl 3 rfl) ?_
  refine lv_iconst (v := nI 5) C.hx C.hb dL_refuses_317 (by decide +kernel) ?_
  refine lv_iconst (v := nI 4) C.hx C.hb dL_refuses_318 (by decide +kernel) ?_
  refine lv_iconst (v := nI 0) C.hx C.hb dL_refuses_319 (by decide +kernel) ?_
  refine q_cR (w := 5) (p0 := -1) (p1 := nI 5) (p2 := nI 4) (p3 := nI 0) (r := -7000001) (c2 := 11) (s2 := 66) C hs hP hD hS (ri_wouldMove C.htr (notr (by decide +kernel) (by omega))) hl rfl (Nat.le_of_ble_eq_true rfl) ⟨Nat.le_of_ble_eq_true rfl, Nat.le_of_ble_eq_true rfl⟩ ⟨Nat.le_of_ble_eq_true rfl, Nat.le_of_ble_eq_true rfl⟩ ⟨Nat.le_of_ble_eq_true rfl, Nat.le_of_ble_eq_true rfl⟩ dL_refuses_320 (fun g z H locs hs hP hD hS => ?_)
  refine lv_ldc (v := -7000001) C.hx C.hb C.hown (C.hT.use kk_L_90 args) dL_refuses_323 ?_
  refine lv_icmp_ne (tgt := 453) C.hx C.hb dL_refuses_325 (by decide) (fun c9 => absurd c9 (by decide +kernel)) (fun _ => ?_)
  refine lv_aload_n C.hx C.hb dL_refuses_328 rfl (lv_at hl 9 rfl) ?_
  refine lv_bipush (v := nI 17) C.hx C.hb dL_refuses_329 (by decide +kernel) ?_
  refine lv_iload C.hx C.hb dL_refuses_331 (lv_at hl 2 rfl) ?_
  refine lv_iconst (v := nI 0) C.hx C.hb dL_refuses_333 (by decide +kernel) ?_
  refine lv_iconst (v := nI 0) C.hx C.hb dL_refuses_334 (by decide +kernel) ?_
  refine lv_iconst (v := nI 0) C.hx C.hb dL_refuses_335 (by decide +kernel) ?_
  refine q_cR (w := 17) (p0 := -1) (p1 := nI 0) (p2 := nI 0) (p3 := nI 0) (r := -7000001) (c2 := 12) (s2 := 72) C hs hP hD hS (ri_careerAt C.htr (notr (by decide +kernel) (by omega))) hl rfl (Nat.le_of_ble_eq_true rfl) ⟨Nat.le_of_ble_eq_true rfl, Nat.le_of_ble_eq_true rfl⟩ ⟨Nat.le_of_ble_eq_true rfl, Nat.le_of_ble_eq_true rfl⟩ ⟨Nat.le_of_ble_eq_true rfl, Nat.le_of_ble_eq_true rfl⟩ dL_refuses_336 (fun g z H locs hs hP hD hS => ?_)
  refine lv_ldc (v := -7000001) C.hx C.hb C.hown (C.hT.use kk_L_90 args) dL_refuses_339 ?_
  refine lv_icmp_ne (tgt := 453) C.hx C.hb dL_refuses_341 (by decide) (fun c9 => absurd c9 (by decide +kernel)) (fun _ => ?_)
  refine lv_aload_n C.hx C.hb dL_refuses_344 rfl (lv_at hl 9 rfl) ?_
  refine lv_bipush (v := nI 20) C.hx C.hb dL_refuses_345 (by decide +kernel) ?_
  refine lv_iload C.hx C.hb dL_refuses_347 (lv_at hl 2 rfl) ?_
  refine lv_iconst (v := nI 0) C.hx C.hb dL_refuses_349 (by decide +kernel) ?_
  refine lv_iconst (v := nI 0) C.hx C.hb dL_refuses_350 (by decide +kernel) ?_
  refine lv_iconst (v := nI 0) C.hx C.hb dL_refuses_351 (by decide +kernel) ?_
  refine q_cR (w := 20) (p0 := -1) (p1 := nI 0) (p2 := nI 0) (p3 := nI 0) (r := -7000001) (c2 := 13) (s2 := 78) C hs hP hD hS (ri_degree C.htr (notr (by decide +kernel) (by omega))) hl rfl (Nat.le_of_ble_eq_true rfl) ⟨Nat.le_of_ble_eq_true rfl, Nat.le_of_ble_eq_true rfl⟩ ⟨Nat.le_of_ble_eq_true rfl, Nat.le_of_ble_eq_true rfl⟩ ⟨Nat.le_of_ble_eq_true rfl, Nat.le_of_ble_eq_true rfl⟩ dL_refuses_352 (fun g z H locs hs hP hD hS => ?_)
  refine lv_ldc (v := -7000001) C.hx C.hb C.hown (C.hT.use kk_L_90 args) dL_refuses_355 ?_
  refine lv_icmp_ne (tgt := 453) C.hx C.hb dL_refuses_357 (by decide) (fun c9 => absurd c9 (by decide +kernel)) (fun _ => ?_)
  refine lv_aload_n C.hx C.hb dL_refuses_360 rfl (lv_at hl 9 rfl) ?_
  refine lv_bipush (v := nI 20) C.hx C.hb dL_refuses_361 (by decide +kernel) ?_
  refine lv_iconst (v := nI 0) C.hx C.hb dL_refuses_363 (by decide +kernel) ?_
  refine lv_iload C.hx C.hb dL_refuses_364 (lv_at hl 2 rfl) ?_
  refine lv_iconst (v := nI 0) C.hx C.hb dL_refuses_366 (by decide +kernel) ?_
  refine lv_iconst (v := nI 0) C.hx C.hb dL_refuses_367 (by decide +kernel) ?_
  refine q_cR (w := 20) (p0 := nI 0) (p1 := -1) (p2 := nI 0) (p3 := nI 0) (r := -7000001) (c2 := 14) (s2 := 84) C hs hP hD hS (rj_degree C.htr (notr (by decide +kernel) (by omega))) hl rfl (Nat.le_of_ble_eq_true rfl) ⟨Nat.le_of_ble_eq_true rfl, Nat.le_of_ble_eq_true rfl⟩ ⟨Nat.le_of_ble_eq_true rfl, Nat.le_of_ble_eq_true rfl⟩ ⟨Nat.le_of_ble_eq_true rfl, Nat.le_of_ble_eq_true rfl⟩ dL_refuses_368 (fun g z H locs hs hP hD hS => ?_)
  refine lv_ldc (v := -7000001) C.hx C.hb C.hown (C.hT.use kk_L_90 args) dL_refuses_371 ?_
  refine lv_icmp_ne (tgt := 453) C.hx C.hb dL_refuses_373 (by decide) (fun c9 => absurd c9 (by decide +kernel)) (fun _ => ?_)
  refine lv_aload_n C.hx C.hb dL_refuses_376 rfl (lv_at hl 9 rfl) ?_
  refine lv_bipush (v := nI 21) C.hx C.hb dL_refuses_377 (by decide +kernel) ?_
  refine lv_iload C.hx C.hb dL_refuses_379 (lv_at hl 6 rfl) ?_
  refine lv_iconst (v := nI 1) C.hx C.hb dL_refuses_381 (by decide +kernel) ?_
  refine lv_icmp_ne (tgt := 391) C.hx C.hb dL_refuses_382 (by decide) (fun _ => ?_) (fun c9 => absurd c9 (by decide +kernel))
  refine lv_iload C.hx C.hb dL_refuses_391 (lv_at hl 5 rfl) ?_
  refine lv_iconst (v := nI 0) C.hx C.hb dL_refuses_393 (by decide +kernel) ?_
  refine lv_iconst (v := nI 0) C.hx C.hb dL_refuses_394 (by decide +kernel) ?_
  refine lv_iconst (v := nI 0) C.hx C.hb dL_refuses_395 (by decide +kernel) ?_
  refine q_cR (w := 21) (p0 := -1) (p1 := nI 0) (p2 := nI 0) (p3 := nI 0) (r := -7000002) (c2 := 15) (s2 := 90) C hs hP hD hS (rt_best C.htr (shB (by decide +kernel) ha)) hl rfl (Nat.le_of_ble_eq_true rfl) ⟨Nat.le_of_ble_eq_true rfl, Nat.le_of_ble_eq_true rfl⟩ ⟨Nat.le_of_ble_eq_true rfl, Nat.le_of_ble_eq_true rfl⟩ ⟨Nat.le_of_ble_eq_true rfl, Nat.le_of_ble_eq_true rfl⟩ dL_refuses_396 (fun g z H locs hs hP hD hS => ?_)
  refine lv_ldc (v := -7000002) C.hx C.hb C.hown (C.hT.use kk_L_93 args) dL_refuses_399 ?_
  refine lv_icmp_ne (tgt := 453) C.hx C.hb dL_refuses_401 (by decide) (fun c9 => absurd c9 (by decide +kernel)) (fun _ => ?_)
  refine lv_aload_n C.hx C.hb dL_refuses_404 rfl (lv_at hl 9 rfl) ?_
  refine lv_bipush (v := nI 22) C.hx C.hb dL_refuses_405 (by decide +kernel) ?_
  refine lv_iload C.hx C.hb dL_refuses_407 (lv_at hl 6 rfl) ?_
  refine lv_iconst (v := nI 1) C.hx C.hb dL_refuses_409 (by decide +kernel) ?_
  refine lv_icmp_ne (tgt := 419) C.hx C.hb dL_refuses_410 (by decide) (fun _ => ?_) (fun c9 => absurd c9 (by decide +kernel))
  refine lv_iload C.hx C.hb dL_refuses_419 (lv_at hl 5 rfl) ?_
  refine lv_iconst (v := nI 0) C.hx C.hb dL_refuses_421 (by decide +kernel) ?_
  refine lv_iconst (v := nI 0) C.hx C.hb dL_refuses_422 (by decide +kernel) ?_
  refine lv_iconst (v := nI 0) C.hx C.hb dL_refuses_423 (by decide +kernel) ?_
  refine q_cR (w := 22) (p0 := -1) (p1 := nI 0) (p2 := nI 0) (p3 := nI 0) (r := -7000002) (c2 := 16) (s2 := 96) C hs hP hD hS (rt_bestAnew C.htr (shB (by decide +kernel) ha)) hl rfl (Nat.le_of_ble_eq_true rfl) ⟨Nat.le_of_ble_eq_true rfl, Nat.le_of_ble_eq_true rfl⟩ ⟨Nat.le_of_ble_eq_true rfl, Nat.le_of_ble_eq_true rfl⟩ ⟨Nat.le_of_ble_eq_true rfl, Nat.le_of_ble_eq_true rfl⟩ dL_refuses_424 (fun g z H locs hs hP hD hS => ?_)
  refine lv_ldc (v := -7000002) C.hx C.hb C.hown (C.hT.use kk_L_93 args) dL_refuses_427 ?_
  refine lv_icmp_ne (tgt := 453) C.hx C.hb dL_refuses_429 (by decide) (fun c9 => absurd c9 (by decide +kernel)) (fun _ => ?_)
  exact kk g z H locs ls hs hP hD hS hl

set_option maxRecDepth 100000 in
set_option maxHeartbeats 4000000 in
theorem tf_3 {p : Program} {l : Launch} {e : Env} {s : State} {m : MethodId} {args : Array Value} {below : List Frame} {meth : Method} {c : Code} {D : va_G} {cA : ClassId} {A : Nat → Prop} {ad : Nat → Nat} {Q : State → Prop} {g0 : Nat → Nat → Int32} {a t b : Nat} (ha : a ≤ 16) (hb9 : b ≤ 40) (hab : 0 < a → 0 < b) (C : lcx p l s m c cL_refuses 16 D cA A) (kk : ∀ (g : Nat → Nat → Int32) (z : Nat → Nat) (H : Heap) (locs : List Loc) (ls : Array Slot), SR g0 a t b g z → va_P D vwCl (rlW cA ad g z) H → va_D A (rlW cA ad g z) → va_S A s.heap H locs → lv_has ls 16 [(12, .int (nI 1)), (15, .int (nI 1)), (14, .int (nI 1)), (13, .int (nI 3)), (11, .int (-1)), (10, .int (-1)), (9, .int (-1)), (8, .int (-1)), (7, .int (-2)), (6, .int (-1)), (5, .int (nI 0)), (4, .int (nI (dfO g0 a a))), (3, .int (nI 2147483647)), (0, .ref (ad 70)), (1, .int (nI a)), (2, .int (nI b))] → W p l e rm_Lr s m args below meth c H locs 20 120 Q (F0 m 611 ls [])) : ∀ (g : Nat → Nat → Int32) (z : Nat → Nat) (H : Heap) (locs : List Loc) (ls : Array Slot), SR g0 a t b g z → va_P D vwCl (rlW cA ad g z) H → va_D A (rlW cA ad g z) → va_S A s.heap H locs → lv_has ls 16 [(11, .int (-1)), (10, .int (-1)), (9, .int (-1)), (8, .int (-1)), (7, .int (-2)), (6, .int (-1)), (5, .int (nI 0)), (4, .int (nI (dfO g0 a a))), (3, .int (nI 2147483647)), (0, .ref (ad 70)), (1, .int (nI a)), (2, .int (nI b))] → W p l e rm_Lr s m args below meth c H locs 16 96 Q (F0 m 432 ls []) := by
  intro g z H locs ls hs hP hD hS hl
  refine lv_aload_n C.hx C.hb dL_refuses_432 rfl (lv_at hl 9 rfl) ?_
  refine lv_bipush (v := nI 23) C.hx C.hb dL_refuses_433 (by decide +kernel) ?_
  refine lv_iload C.hx C.hb dL_refuses_435 (lv_at hl 3 rfl) ?_
  refine lv_bipush (v := nI 99) C.hx C.hb dL_refuses_437 (by decide +kernel) ?_
  refine lv_iconst (v := nI 0) C.hx C.hb dL_refuses_439 (by decide +kernel) ?_
  refine lv_iconst (v := nI 0) C.hx C.hb dL_refuses_440 (by decide +kernel) ?_
  refine q_cR (w := 23) (p0 := -1) (p1 := nI 99) (p2 := nI 0) (p3 := nI 0) (r := -7000001) (c2 := 17) (s2 := 102) C hs hP hD hS (ri_rival C.htr (notr (by decide +kernel) (by omega))) hl rfl (Nat.le_of_ble_eq_true rfl) ⟨Nat.le_of_ble_eq_true rfl, Nat.le_of_ble_eq_true rfl⟩ ⟨Nat.le_of_ble_eq_true rfl, Nat.le_of_ble_eq_true rfl⟩ ⟨Nat.le_of_ble_eq_true rfl, Nat.le_of_ble_eq_true rfl⟩ dL_refuses_441 (fun g z H locs hs hP hD hS => ?_)
  refine lv_ldc (v := -7000001) C.hx C.hb C.hown (C.hT.use kk_L_90 args) dL_refuses_444 ?_
  refine lv_icmp_ne (tgt := 453) C.hx C.hb dL_refuses_446 (by decide) (fun c9 => absurd c9 (by decide +kernel)) (fun _ => ?_)
  refine lv_iconst (v := nI 1) C.hx C.hb dL_refuses_449 (by decide +kernel) ?_
  refine lv_goto (tgt := 454) C.hx C.hb dL_refuses_450 (by decide) ?_
  refine lv_istore (lv' := [(12, .int (nI 1)), (11, .int (-1)), (10, .int (-1)), (9, .int (-1)), (8, .int (-1)), (7, .int (-2)), (6, .int (-1)), (5, .int (nI 0)), (4, .int (nI (dfO g0 a a))), (3, .int (nI 2147483647)), (0, .ref (ad 70)), (1, .int (nI a)), (2, .int (nI b))]) C.hx C.hb dL_refuses_454 hl (by decide) rfl (fun ls hl => ?_)
  refine lv_iconst (v := nI 3) C.hx C.hb dL_refuses_456 (by decide +kernel) ?_
  refine lv_istore (lv' := [(13, .int (nI 3)), (12, .int (nI 1)), (11, .int (-1)), (10, .int (-1)), (9, .int (-1)), (8, .int (-1)), (7, .int (-2)), (6, .int (-1)), (5, .int (nI 0)), (4, .int (nI (dfO g0 a a))), (3, .int (nI 2147483647)), (0, .ref (ad 70)), (1, .int (nI a)), (2, .int (nI b))]) C.hx C.hb dL_refuses_457 hl (by decide) rfl (fun ls hl => ?_)
  refine lv_iload C.hx C.hb dL_refuses_459 (lv_at hl 0 rfl) ?_
  refine lv_bipush (v := nI 20) C.hx C.hb dL_refuses_461 (by decide +kernel) ?_
  refine lv_icmp_ge (tgt := 687) C.hx C.hb dL_refuses_463 (by decide) (fun c9 => absurd c9 (by decide +kernel)) (fun _ => ?_)
  refine lv_iload C.hx C.hb dL_refuses_466 (lv_at hl 1 rfl) ?_
  refine lv_if_eq (tgt := 687) C.hx C.hb dL_refuses_468 (by decide) (fun c9 => absurd c9 (by decide +kernel)) (fun _ => ?_)
  refine lv_iload C.hx C.hb dL_refuses_471 (lv_at hl 0 rfl) ?_
  refine lv_iconst (v := nI 4) C.hx C.hb dL_refuses_473 (by decide +kernel) ?_
  refine lv_icmp_lt (tgt := 497) C.hx C.hb dL_refuses_474 (by decide) (fun _ => ?_) (fun c9 => absurd c9 (by decide +kernel))
  refine lv_iconst (v := nI 1) C.hx C.hb dL_refuses_497 (by decide +kernel) ?_
  refine lv_goto (tgt := 502) C.hx C.hb dL_refuses_498 (by decide) ?_
  refine lv_istore (lv' := [(14, .int (nI 1)), (13, .int (nI 3)), (12, .int (nI 1)), (11, .int (-1)), (10, .int (-1)), (9, .int (-1)), (8, .int (-1)), (7, .int (-2)), (6, .int (-1)), (5, .int (nI 0)), (4, .int (nI (dfO g0 a a))), (3, .int (nI 2147483647)), (0, .ref (ad 70)), (1, .int (nI a)), (2, .int (nI b))]) C.hx C.hb dL_refuses_502 hl (by decide) rfl (fun ls hl => ?_)
  refine lv_iload C.hx C.hb dL_refuses_504 (lv_at hl 1 rfl) ?_
  refine lv_iconst (v := nI 3) C.hx C.hb dL_refuses_506 (by decide +kernel) ?_
  refine lv_icmp_eq (tgt := 531) C.hx C.hb dL_refuses_507 (by decide) (fun _ => ?_) (fun c9 => absurd c9 (by decide +kernel))
  refine lv_iconst (v := nI 1) C.hx C.hb dL_refuses_531 (by decide +kernel) ?_
  refine lv_goto (tgt := 536) C.hx C.hb dL_refuses_532 (by decide) ?_
  refine lv_istore (lv' := [(15, .int (nI 1)), (14, .int (nI 1)), (13, .int (nI 3)), (12, .int (nI 1)), (11, .int (-1)), (10, .int (-1)), (9, .int (-1)), (8, .int (-1)), (7, .int (-2)), (6, .int (-1)), (5, .int (nI 0)), (4, .int (nI (dfO g0 a a))), (3, .int (nI 2147483647)), (0, .ref (ad 70)), (1, .int (nI a)), (2, .int (nI b))]) C.hx C.hb dL_refuses_536 hl (by decide) rfl (fun ls hl => ?_)
  refine lv_iload C.hx C.hb dL_refuses_538 (lv_at hl 1 rfl) ?_
  refine lv_if_eq (tgt := 567) C.hx C.hb dL_refuses_540 (by decide) (fun c9 => absurd c9 (by decide +kernel)) (fun _ => ?_)
  refine lv_aload_n C.hx C.hb dL_refuses_543 rfl (lv_at hl 13 rfl) ?_
  refine lv_iload C.hx C.hb dL_refuses_544 (lv_at hl 2 rfl) ?_
  refine lv_iload C.hx C.hb dL_refuses_546 (lv_at hl 7 rfl) ?_
  refine lv_iconst (v := nI 0) C.hx C.hb dL_refuses_548 (by decide +kernel) ?_
  refine lv_bipush (v := nI 99) C.hx C.hb dL_refuses_549 (by decide +kernel) ?_
  refine lv_iconst (v := nI 0) C.hx C.hb dL_refuses_551 (by decide +kernel) ?_
  refine q_cR (w := 3) (p0 := -1) (p1 := nI 0) (p2 := nI 99) (p3 := nI 0) (r := -7000001) (c2 := 18) (s2 := 108) C hs hP hD hS (ri_ahead C.htr (notr (by decide +kernel) (by omega))) hl rfl (Nat.le_of_ble_eq_true rfl) ⟨Nat.le_of_ble_eq_true rfl, Nat.le_of_ble_eq_true rfl⟩ ⟨Nat.le_of_ble_eq_true rfl, Nat.le_of_ble_eq_true rfl⟩ ⟨Nat.le_of_ble_eq_true rfl, Nat.le_of_ble_eq_true rfl⟩ dL_refuses_552 (fun g z H locs hs hP hD hS => ?_)
  refine lv_ldc (v := -7000001) C.hx C.hb C.hown (C.hT.use kk_L_90 args) dL_refuses_555 ?_
  refine lv_icmp_ne (tgt := 564) C.hx C.hb dL_refuses_557 (by decide) (fun c9 => absurd c9 (by decide +kernel)) (fun _ => ?_)
  refine lv_iconst (v := nI 1) C.hx C.hb dL_refuses_560 (by decide +kernel) ?_
  refine lv_goto (tgt := 565) C.hx C.hb dL_refuses_561 (by decide) ?_
  refine lv_istore (lv' := [(12, .int (nI 1)), (15, .int (nI 1)), (14, .int (nI 1)), (13, .int (nI 3)), (11, .int (-1)), (10, .int (-1)), (9, .int (-1)), (8, .int (-1)), (7, .int (-2)), (6, .int (-1)), (5, .int (nI 0)), (4, .int (nI (dfO g0 a a))), (3, .int (nI 2147483647)), (0, .ref (ad 70)), (1, .int (nI a)), (2, .int (nI b))]) C.hx C.hb dL_refuses_565 hl (by decide) rfl (fun ls hl => ?_)
  refine lv_iload C.hx C.hb dL_refuses_567 (lv_at hl 1 rfl) ?_
  refine lv_if_eq (tgt := 637) C.hx C.hb dL_refuses_569 (by decide) (fun c9 => absurd c9 (by decide +kernel)) (fun _ => ?_)
  refine lv_iload C.hx C.hb dL_refuses_572 (lv_at hl 0 rfl) ?_
  refine lv_if_eq (tgt := 634) C.hx C.hb dL_refuses_574 (by decide) (fun c9 => absurd c9 (by decide +kernel)) (fun _ => ?_)
  refine lv_aload_n C.hx C.hb dL_refuses_577 rfl (lv_at hl 13 rfl) ?_
  refine lv_iload C.hx C.hb dL_refuses_578 (lv_at hl 3 rfl) ?_
  refine lv_iconst (v := nI 0) C.hx C.hb dL_refuses_580 (by decide +kernel) ?_
  refine lv_iload C.hx C.hb dL_refuses_581 (lv_at hl 7 rfl) ?_
  refine lv_bipush (v := nI 99) C.hx C.hb dL_refuses_583 (by decide +kernel) ?_
  refine lv_iconst (v := nI 0) C.hx C.hb dL_refuses_585 (by decide +kernel) ?_
  refine q_cR (w := 3) (p0 := nI 0) (p1 := -1) (p2 := nI 99) (p3 := nI 0) (r := -7000001) (c2 := 19) (s2 := 114) C hs hP hD hS (rj_ahead C.htr (notr (by decide +kernel) (by omega))) hl rfl (Nat.le_of_ble_eq_true rfl) ⟨Nat.le_of_ble_eq_true rfl, Nat.le_of_ble_eq_true rfl⟩ ⟨Nat.le_of_ble_eq_true rfl, Nat.le_of_ble_eq_true rfl⟩ ⟨Nat.le_of_ble_eq_true rfl, Nat.le_of_ble_eq_true rfl⟩ dL_refuses_586 (fun g z H locs hs hP hD hS => ?_)
  refine lv_ldc (v := -7000001) C.hx C.hb C.hown (C.hT.use kk_L_90 args) dL_refuses_589 ?_
  refine lv_icmp_ne (tgt := 634) C.hx C.hb dL_refuses_591 (by decide) (fun c9 => absurd c9 (by decide +kernel)) (fun _ => ?_)
  refine lv_aload_n C.hx C.hb dL_refuses_594 rfl (lv_at hl 13 rfl) ?_
  refine lv_iload C.hx C.hb dL_refuses_595 (lv_at hl 3 rfl) ?_
  refine lv_iload C.hx C.hb dL_refuses_597 (lv_at hl 7 rfl) ?_
  refine lv_iload C.hx C.hb dL_refuses_599 (lv_at hl 7 rfl) ?_
  refine lv_iconst (v := nI 0) C.hx C.hb dL_refuses_601 (by decide +kernel) ?_
  refine lv_iconst (v := nI 0) C.hx C.hb dL_refuses_602 (by decide +kernel) ?_
  refine q_cR (w := 3) (p0 := -1) (p1 := -1) (p2 := nI 0) (p3 := nI 0) (r := -7000001) (c2 := 20) (s2 := 120) C hs hP hD hS (ri_ahead C.htr (notr (by decide +kernel) (by omega))) hl rfl (Nat.le_of_ble_eq_true rfl) ⟨Nat.le_of_ble_eq_true rfl, Nat.le_of_ble_eq_true rfl⟩ ⟨Nat.le_of_ble_eq_true rfl, Nat.le_of_ble_eq_true rfl⟩ ⟨Nat.le_of_ble_eq_true rfl, Nat.le_of_ble_eq_true rfl⟩ dL_refuses_603 (fun g z H locs hs hP hD hS => ?_)
  refine lv_ldc (v := -7000001) C.hx C.hb C.hown (C.hT.use kk_L_90 args) dL_refuses_606 ?_
  refine lv_icmp_ne (tgt := 634) C.hx C.hb dL_refuses_608 (by decide) (fun c9 => absurd c9 (by decide +kernel)) (fun _ => ?_)
  exact kk g z H locs ls hs hP hD hS hl

set_option maxRecDepth 100000 in
set_option maxHeartbeats 4000000 in
theorem tf_4 {p : Program} {l : Launch} {e : Env} {s : State} {m : MethodId} {args : Array Value} {below : List Frame} {meth : Method} {c : Code} {D : va_G} {cA : ClassId} {A : Nat → Prop} {ad : Nat → Nat} {Q : State → Prop} {g0 : Nat → Nat → Int32} {a t b : Nat} (ha : a ≤ 16) (hb9 : b ≤ 40) (hab : 0 < a → 0 < b) (C : lcx p l s m c cL_refuses 16 D cA A) (kk : ∀ (g : Nat → Nat → Int32) (z : Nat → Nat) (H : Heap) (locs : List Loc) (ls : Array Slot), SR g0 a t b g z → va_P D vwCl (rlW cA ad g z) H → va_D A (rlW cA ad g z) → va_S A s.heap H locs → lv_has ls 16 [(12, .int (nI 1)), (15, .int (nI 1)), (14, .int (nI 1)), (13, .int (nI 3)), (11, .int (-1)), (10, .int (-1)), (9, .int (-1)), (8, .int (-1)), (7, .int (-2)), (6, .int (-1)), (5, .int (nI 0)), (4, .int (nI (dfO g0 a a))), (3, .int (nI 2147483647)), (0, .ref (ad 70)), (1, .int (nI a)), (2, .int (nI b))] → W p l e rm_Lr s m args below meth c H locs 21 126 Q (F0 m 630 ls [])) : ∀ (g : Nat → Nat → Int32) (z : Nat → Nat) (H : Heap) (locs : List Loc) (ls : Array Slot), SR g0 a t b g z → va_P D vwCl (rlW cA ad g z) H → va_D A (rlW cA ad g z) → va_S A s.heap H locs → lv_has ls 16 [(12, .int (nI 1)), (15, .int (nI 1)), (14, .int (nI 1)), (13, .int (nI 3)), (11, .int (-1)), (10, .int (-1)), (9, .int (-1)), (8, .int (-1)), (7, .int (-2)), (6, .int (-1)), (5, .int (nI 0)), (4, .int (nI (dfO g0 a a))), (3, .int (nI 2147483647)), (0, .ref (ad 70)), (1, .int (nI a)), (2, .int (nI b))] → W p l e rm_Lr s m args below meth c H locs 20 120 Q (F0 m 611 ls []) := by
  intro g z H locs ls hs hP hD hS hl
  refine lv_iload_n C.hx C.hb dL_refuses_611 rfl (lv_at hl 14 rfl) ?_
  refine lv_if_eq (tgt := 630) C.hx C.hb dL_refuses_612 (by decide) (fun c9 => ?_) (fun c9 => ?_)
  · refine W.widen (k := 21) (n := 126) (Nat.le_of_ble_eq_true rfl) (Nat.le_of_ble_eq_true rfl) ?_
    exact kk g z H locs ls hs hP hD hS hl
  · have ha0 : 0 < a := Nat.pos_of_ne_zero (fun q => c9 (by rw [q]; rfl))
    have hb0 : 0 < b := hab ha0
    refine lv_aload_n C.hx C.hb dL_refuses_615 rfl (lv_at hl 13 rfl) ?_
    refine lv_iload C.hx C.hb dL_refuses_616 (lv_at hl 3 rfl) ?_
    refine lv_iconst (v := nI 0) C.hx C.hb dL_refuses_618 (by decide +kernel) ?_
    refine lv_iconst (v := nI 0) C.hx C.hb dL_refuses_619 (by decide +kernel) ?_
    refine lv_iconst (v := nI 0) C.hx C.hb dL_refuses_620 (by decide +kernel) ?_
    refine lv_iconst (v := nI 0) C.hx C.hb dL_refuses_621 (by decide +kernel) ?_
    refine q_cR (w := 3) (p0 := nI 0) (p1 := nI 0) (p2 := nI 0) (p3 := nI 0) (r := -7000002) (c2 := 21) (s2 := 126) C hs hP hD hS (rs_ahead C.htr (q_r_nI (by omega))) hl rfl (Nat.le_of_ble_eq_true rfl) ⟨Nat.le_of_ble_eq_true rfl, Nat.le_of_ble_eq_true rfl⟩ ⟨Nat.le_of_ble_eq_true rfl, Nat.le_of_ble_eq_true rfl⟩ ⟨Nat.le_of_ble_eq_true rfl, Nat.le_of_ble_eq_true rfl⟩ dL_refuses_622 (fun g z H locs hs hP hD hS => ?_)
    refine lv_ldc (v := -7000002) C.hx C.hb C.hown (C.hT.use kk_L_93 args) dL_refuses_625 ?_
    refine lv_icmp_ne (tgt := 634) C.hx C.hb dL_refuses_627 (by decide) (fun c9 => absurd c9 (by decide +kernel)) (fun _ => ?_)
    exact kk g z H locs ls hs hP hD hS hl

set_option maxRecDepth 100000 in
set_option maxHeartbeats 4000000 in
theorem tf_5 {p : Program} {l : Launch} {e : Env} {s : State} {m : MethodId} {args : Array Value} {below : List Frame} {meth : Method} {c : Code} {D : va_G} {cA : ClassId} {A : Nat → Prop} {ad : Nat → Nat} {Q : State → Prop} {g0 : Nat → Nat → Int32} {a t b : Nat} (ha : a ≤ 16) (hb9 : b ≤ 40) (hab : 0 < a → 0 < b) (C : lcx p l s m c cL_refuses 16 D cA A) (kk : ∀ (g : Nat → Nat → Int32) (z : Nat → Nat) (H : Heap) (locs : List Loc) (ls : Array Slot), SR g0 a t b g z → va_P D vwCl (rlW cA ad g z) H → va_D A (rlW cA ad g z) → va_S A s.heap H locs → lv_has ls 16 [(13, .int (nI 5)), (15, .int (nI 0)), (14, .int (nI 0)), (12, .int (nI 1)), (11, .int (-1)), (10, .int (-1)), (9, .int (-1)), (8, .int (-1)), (7, .int (-2)), (6, .int (-1)), (5, .int (nI 0)), (4, .int (nI (dfO g0 a a))), (3, .int (nI 2147483647)), (0, .ref (ad 70)), (1, .int (nI a)), (2, .int (nI b))] → W p l e rm_Lr s m args below meth c H locs 21 126 Q (F0 m 471 ls [])) : ∀ (g : Nat → Nat → Int32) (z : Nat → Nat) (H : Heap) (locs : List Loc) (ls : Array Slot), SR g0 a t b g z → va_P D vwCl (rlW cA ad g z) H → va_D A (rlW cA ad g z) → va_S A s.heap H locs → lv_has ls 16 [(12, .int (nI 1)), (15, .int (nI 1)), (14, .int (nI 1)), (13, .int (nI 3)), (11, .int (-1)), (10, .int (-1)), (9, .int (-1)), (8, .int (-1)), (7, .int (-2)), (6, .int (-1)), (5, .int (nI 0)), (4, .int (nI (dfO g0 a a))), (3, .int (nI 2147483647)), (0, .ref (ad 70)), (1, .int (nI a)), (2, .int (nI b))] → W p l e rm_Lr s m args below meth c H locs 21 126 Q (F0 m 630 ls []) := by
  intro g z H locs ls hs hP hD hS hl
  refine lv_iconst (v := nI 1) C.hx C.hb dL_refuses_630 (by decide +kernel) ?_
  refine lv_goto (tgt := 635) C.hx C.hb dL_refuses_631 (by decide) ?_
  refine lv_istore (lv' := [(12, .int (nI 1)), (15, .int (nI 1)), (14, .int (nI 1)), (13, .int (nI 3)), (11, .int (-1)), (10, .int (-1)), (9, .int (-1)), (8, .int (-1)), (7, .int (-2)), (6, .int (-1)), (5, .int (nI 0)), (4, .int (nI (dfO g0 a a))), (3, .int (nI 2147483647)), (0, .ref (ad 70)), (1, .int (nI a)), (2, .int (nI b))]) C.hx C.hb dL_refuses_635 hl (by decide) rfl (fun ls hl => ?_)
  refine lv_iload C.hx C.hb dL_refuses_637 (lv_at hl 3 rfl) ?_
  refine lv_bipush (v := nI 15) C.hx C.hb dL_refuses_639 (by decide +kernel) ?_
  refine lv_icmp_eq (tgt := 658) C.hx C.hb dL_refuses_641 (by decide) (fun c9 => absurd c9 (by decide +kernel)) (fun _ => ?_)
  refine lv_iload C.hx C.hb dL_refuses_644 (lv_at hl 3 rfl) ?_
  refine lv_bipush (v := nI 16) C.hx C.hb dL_refuses_646 (by decide +kernel) ?_
  refine lv_icmp_eq (tgt := 658) C.hx C.hb dL_refuses_648 (by decide) (fun c9 => absurd c9 (by decide +kernel)) (fun _ => ?_)
  refine lv_iload C.hx C.hb dL_refuses_651 (lv_at hl 3 rfl) ?_
  refine lv_bipush (v := nI 18) C.hx C.hb dL_refuses_653 (by decide +kernel) ?_
  refine lv_icmp_ne (tgt := 681) C.hx C.hb dL_refuses_655 (by decide) (fun _ => ?_) (fun c9 => absurd c9 (by decide +kernel))
  refine lv_iinc (v := nI 4) (lv' := [(13, .int (nI 4)), (12, .int (nI 1)), (15, .int (nI 1)), (14, .int (nI 1)), (11, .int (-1)), (10, .int (-1)), (9, .int (-1)), (8, .int (-1)), (7, .int (-2)), (6, .int (-1)), (5, .int (nI 0)), (4, .int (nI (dfO g0 a a))), (3, .int (nI 2147483647)), (0, .ref (ad 70)), (1, .int (nI a)), (2, .int (nI b))]) C.hx C.hb dL_refuses_681 hl (k := 3) rfl (by decide +kernel) (by decide) rfl (fun ls hl => ?_)
  refine lv_goto (tgt := 459) C.hx C.hb dL_refuses_684 (by decide) ?_
  refine lv_iload C.hx C.hb dL_refuses_459 (lv_at hl 0 rfl) ?_
  refine lv_bipush (v := nI 20) C.hx C.hb dL_refuses_461 (by decide +kernel) ?_
  refine lv_icmp_ge (tgt := 687) C.hx C.hb dL_refuses_463 (by decide) (fun c9 => absurd c9 (by decide +kernel)) (fun _ => ?_)
  refine lv_iload C.hx C.hb dL_refuses_466 (lv_at hl 1 rfl) ?_
  refine lv_if_eq (tgt := 687) C.hx C.hb dL_refuses_468 (by decide) (fun c9 => absurd c9 (by decide +kernel)) (fun _ => ?_)
  refine lv_iload C.hx C.hb dL_refuses_471 (lv_at hl 0 rfl) ?_
  refine lv_iconst (v := nI 4) C.hx C.hb dL_refuses_473 (by decide +kernel) ?_
  refine lv_icmp_lt (tgt := 497) C.hx C.hb dL_refuses_474 (by decide) (fun c9 => absurd c9 (by decide +kernel)) (fun _ => ?_)
  refine lv_iload C.hx C.hb dL_refuses_477 (lv_at hl 0 rfl) ?_
  refine lv_iconst (v := nI 5) C.hx C.hb dL_refuses_479 (by decide +kernel) ?_
  refine lv_icmp_le (tgt := 490) C.hx C.hb dL_refuses_480 (by decide) (fun _ => ?_) (fun c9 => absurd c9 (by decide +kernel))
  refine lv_iload C.hx C.hb dL_refuses_490 (lv_at hl 0 rfl) ?_
  refine lv_bipush (v := nI 19) C.hx C.hb dL_refuses_492 (by decide +kernel) ?_
  refine lv_icmp_ne (tgt := 501) C.hx C.hb dL_refuses_494 (by decide) (fun _ => ?_) (fun c9 => absurd c9 (by decide +kernel))
  refine lv_iconst (v := nI 0) C.hx C.hb dL_refuses_501 (by decide +kernel) ?_
  refine lv_istore (lv' := [(14, .int (nI 0)), (13, .int (nI 4)), (12, .int (nI 1)), (15, .int (nI 1)), (11, .int (-1)), (10, .int (-1)), (9, .int (-1)), (8, .int (-1)), (7, .int (-2)), (6, .int (-1)), (5, .int (nI 0)), (4, .int (nI (dfO g0 a a))), (3, .int (nI 2147483647)), (0, .ref (ad 70)), (1, .int (nI a)), (2, .int (nI b))]) C.hx C.hb dL_refuses_502 hl (by decide) rfl (fun ls hl => ?_)
  refine lv_iload C.hx C.hb dL_refuses_504 (lv_at hl 1 rfl) ?_
  refine lv_iconst (v := nI 3) C.hx C.hb dL_refuses_506 (by decide +kernel) ?_
  refine lv_icmp_eq (tgt := 531) C.hx C.hb dL_refuses_507 (by decide) (fun c9 => absurd c9 (by decide +kernel)) (fun _ => ?_)
  refine lv_iload C.hx C.hb dL_refuses_510 (lv_at hl 1 rfl) ?_
  refine lv_bipush (v := nI 7) C.hx C.hb dL_refuses_512 (by decide +kernel) ?_
  refine lv_icmp_le (tgt := 524) C.hx C.hb dL_refuses_514 (by decide) (fun _ => ?_) (fun c9 => absurd c9 (by decide +kernel))
  refine lv_iload C.hx C.hb dL_refuses_524 (lv_at hl 1 rfl) ?_
  refine lv_bipush (v := nI 19) C.hx C.hb dL_refuses_526 (by decide +kernel) ?_
  refine lv_icmp_ne (tgt := 535) C.hx C.hb dL_refuses_528 (by decide) (fun _ => ?_) (fun c9 => absurd c9 (by decide +kernel))
  refine lv_iconst (v := nI 0) C.hx C.hb dL_refuses_535 (by decide +kernel) ?_
  refine lv_istore (lv' := [(15, .int (nI 0)), (14, .int (nI 0)), (13, .int (nI 4)), (12, .int (nI 1)), (11, .int (-1)), (10, .int (-1)), (9, .int (-1)), (8, .int (-1)), (7, .int (-2)), (6, .int (-1)), (5, .int (nI 0)), (4, .int (nI (dfO g0 a a))), (3, .int (nI 2147483647)), (0, .ref (ad 70)), (1, .int (nI a)), (2, .int (nI b))]) C.hx C.hb dL_refuses_536 hl (by decide) rfl (fun ls hl => ?_)
  refine lv_iload C.hx C.hb dL_refuses_538 (lv_at hl 1 rfl) ?_
  refine lv_if_eq (tgt := 567) C.hx C.hb dL_refuses_540 (by decide) (fun _ => ?_) (fun c9 => absurd c9 (by decide +kernel))
  refine lv_iload C.hx C.hb dL_refuses_567 (lv_at hl 0 rfl) ?_
  refine lv_if_eq (tgt := 637) C.hx C.hb dL_refuses_569 (by decide) (fun _ => ?_) (fun c9 => absurd c9 (by decide +kernel))
  refine lv_iload C.hx C.hb dL_refuses_637 (lv_at hl 2 rfl) ?_
  refine lv_bipush (v := nI 15) C.hx C.hb dL_refuses_639 (by decide +kernel) ?_
  refine lv_icmp_eq (tgt := 658) C.hx C.hb dL_refuses_641 (by decide) (fun c9 => absurd c9 (by decide +kernel)) (fun _ => ?_)
  refine lv_iload C.hx C.hb dL_refuses_644 (lv_at hl 2 rfl) ?_
  refine lv_bipush (v := nI 16) C.hx C.hb dL_refuses_646 (by decide +kernel) ?_
  refine lv_icmp_eq (tgt := 658) C.hx C.hb dL_refuses_648 (by decide) (fun c9 => absurd c9 (by decide +kernel)) (fun _ => ?_)
  refine lv_iload C.hx C.hb dL_refuses_651 (lv_at hl 2 rfl) ?_
  refine lv_bipush (v := nI 18) C.hx C.hb dL_refuses_653 (by decide +kernel) ?_
  refine lv_icmp_ne (tgt := 681) C.hx C.hb dL_refuses_655 (by decide) (fun _ => ?_) (fun c9 => absurd c9 (by decide +kernel))
  refine lv_iinc (v := nI 5) (lv' := [(13, .int (nI 5)), (15, .int (nI 0)), (14, .int (nI 0)), (12, .int (nI 1)), (11, .int (-1)), (10, .int (-1)), (9, .int (-1)), (8, .int (-1)), (7, .int (-2)), (6, .int (-1)), (5, .int (nI 0)), (4, .int (nI (dfO g0 a a))), (3, .int (nI 2147483647)), (0, .ref (ad 70)), (1, .int (nI a)), (2, .int (nI b))]) C.hx C.hb dL_refuses_681 hl (k := 2) rfl (by decide +kernel) (by decide) rfl (fun ls hl => ?_)
  refine lv_goto (tgt := 459) C.hx C.hb dL_refuses_684 (by decide) ?_
  refine lv_iload C.hx C.hb dL_refuses_459 (lv_at hl 0 rfl) ?_
  refine lv_bipush (v := nI 20) C.hx C.hb dL_refuses_461 (by decide +kernel) ?_
  refine lv_icmp_ge (tgt := 687) C.hx C.hb dL_refuses_463 (by decide) (fun c9 => absurd c9 (by decide +kernel)) (fun _ => ?_)
  refine lv_iload C.hx C.hb dL_refuses_466 (lv_at hl 3 rfl) ?_
  refine lv_if_eq (tgt := 687) C.hx C.hb dL_refuses_468 (by decide) (fun c9 => absurd c9 (by decide +kernel)) (fun _ => ?_)
  exact kk g z H locs ls hs hP hD hS hl

set_option maxRecDepth 100000 in
set_option maxHeartbeats 4000000 in
theorem tf_6 {p : Program} {l : Launch} {e : Env} {s : State} {m : MethodId} {args : Array Value} {below : List Frame} {meth : Method} {c : Code} {D : va_G} {cA : ClassId} {A : Nat → Prop} {ad : Nat → Nat} {Q : State → Prop} {g0 : Nat → Nat → Int32} {a t b : Nat} (ha : a ≤ 16) (hb9 : b ≤ 40) (hab : 0 < a → 0 < b) (C : lcx p l s m c cL_refuses 16 D cA A) (kk : ∀ (g : Nat → Nat → Int32) (z : Nat → Nat) (H : Heap) (locs : List Loc) (ls : Array Slot), SR g0 a t b g z → va_P D vwCl (rlW cA ad g z) H → va_D A (rlW cA ad g z) → va_S A s.heap H locs → lv_has ls 16 [(14, .int (nI 1)), (13, .int (nI 6)), (15, .int (nI 0)), (12, .int (nI 1)), (11, .int (-1)), (10, .int (-1)), (9, .int (-1)), (8, .int (-1)), (7, .int (-2)), (6, .int (-1)), (5, .int (nI 0)), (4, .int (nI (dfO g0 a a))), (3, .int (nI 2147483647)), (0, .ref (ad 70)), (1, .int (nI a)), (2, .int (nI b))] → W p l e rm_Lr s m args below meth c H locs 21 126 Q (F0 m 535 ls [])) : ∀ (g : Nat → Nat → Int32) (z : Nat → Nat) (H : Heap) (locs : List Loc) (ls : Array Slot), SR g0 a t b g z → va_P D vwCl (rlW cA ad g z) H → va_D A (rlW cA ad g z) → va_S A s.heap H locs → lv_has ls 16 [(13, .int (nI 5)), (15, .int (nI 0)), (14, .int (nI 0)), (12, .int (nI 1)), (11, .int (-1)), (10, .int (-1)), (9, .int (-1)), (8, .int (-1)), (7, .int (-2)), (6, .int (-1)), (5, .int (nI 0)), (4, .int (nI (dfO g0 a a))), (3, .int (nI 2147483647)), (0, .ref (ad 70)), (1, .int (nI a)), (2, .int (nI b))] → W p l e rm_Lr s m args below meth c H locs 21 126 Q (F0 m 471 ls []) := by
  intro g z H locs ls hs hP hD hS hl
  refine lv_iload C.hx C.hb dL_refuses_471 (lv_at hl 0 rfl) ?_
  refine lv_iconst (v := nI 4) C.hx C.hb dL_refuses_473 (by decide +kernel) ?_
  refine lv_icmp_lt (tgt := 497) C.hx C.hb dL_refuses_474 (by decide) (fun c9 => absurd c9 (by decide +kernel)) (fun _ => ?_)
  refine lv_iload C.hx C.hb dL_refuses_477 (lv_at hl 0 rfl) ?_
  refine lv_iconst (v := nI 5) C.hx C.hb dL_refuses_479 (by decide +kernel) ?_
  refine lv_icmp_le (tgt := 490) C.hx C.hb dL_refuses_480 (by decide) (fun _ => ?_) (fun c9 => absurd c9 (by decide +kernel))
  refine lv_iload C.hx C.hb dL_refuses_490 (lv_at hl 0 rfl) ?_
  refine lv_bipush (v := nI 19) C.hx C.hb dL_refuses_492 (by decide +kernel) ?_
  refine lv_icmp_ne (tgt := 501) C.hx C.hb dL_refuses_494 (by decide) (fun _ => ?_) (fun c9 => absurd c9 (by decide +kernel))
  refine lv_iconst (v := nI 0) C.hx C.hb dL_refuses_501 (by decide +kernel) ?_
  refine lv_istore (lv' := [(14, .int (nI 0)), (13, .int (nI 5)), (15, .int (nI 0)), (12, .int (nI 1)), (11, .int (-1)), (10, .int (-1)), (9, .int (-1)), (8, .int (-1)), (7, .int (-2)), (6, .int (-1)), (5, .int (nI 0)), (4, .int (nI (dfO g0 a a))), (3, .int (nI 2147483647)), (0, .ref (ad 70)), (1, .int (nI a)), (2, .int (nI b))]) C.hx C.hb dL_refuses_502 hl (by decide) rfl (fun ls hl => ?_)
  refine lv_iload C.hx C.hb dL_refuses_504 (lv_at hl 1 rfl) ?_
  refine lv_iconst (v := nI 3) C.hx C.hb dL_refuses_506 (by decide +kernel) ?_
  refine lv_icmp_eq (tgt := 531) C.hx C.hb dL_refuses_507 (by decide) (fun c9 => absurd c9 (by decide +kernel)) (fun _ => ?_)
  refine lv_iload C.hx C.hb dL_refuses_510 (lv_at hl 1 rfl) ?_
  refine lv_bipush (v := nI 7) C.hx C.hb dL_refuses_512 (by decide +kernel) ?_
  refine lv_icmp_le (tgt := 524) C.hx C.hb dL_refuses_514 (by decide) (fun _ => ?_) (fun c9 => absurd c9 (by decide +kernel))
  refine lv_iload C.hx C.hb dL_refuses_524 (lv_at hl 1 rfl) ?_
  refine lv_bipush (v := nI 19) C.hx C.hb dL_refuses_526 (by decide +kernel) ?_
  refine lv_icmp_ne (tgt := 535) C.hx C.hb dL_refuses_528 (by decide) (fun _ => ?_) (fun c9 => absurd c9 (by decide +kernel))
  refine lv_iconst (v := nI 0) C.hx C.hb dL_refuses_535 (by decide +kernel) ?_
  refine lv_istore (lv' := [(15, .int (nI 0)), (14, .int (nI 0)), (13, .int (nI 5)), (12, .int (nI 1)), (11, .int (-1)), (10, .int (-1)), (9, .int (-1)), (8, .int (-1)), (7, .int (-2)), (6, .int (-1)), (5, .int (nI 0)), (4, .int (nI (dfO g0 a a))), (3, .int (nI 2147483647)), (0, .ref (ad 70)), (1, .int (nI a)), (2, .int (nI b))]) C.hx C.hb dL_refuses_536 hl (by decide) rfl (fun ls hl => ?_)
  refine lv_iload C.hx C.hb dL_refuses_538 (lv_at hl 1 rfl) ?_
  refine lv_if_eq (tgt := 567) C.hx C.hb dL_refuses_540 (by decide) (fun _ => ?_) (fun c9 => absurd c9 (by decide +kernel))
  refine lv_iload C.hx C.hb dL_refuses_567 (lv_at hl 0 rfl) ?_
  refine lv_if_eq (tgt := 637) C.hx C.hb dL_refuses_569 (by decide) (fun _ => ?_) (fun c9 => absurd c9 (by decide +kernel))
  refine lv_iload C.hx C.hb dL_refuses_637 (lv_at hl 2 rfl) ?_
  refine lv_bipush (v := nI 15) C.hx C.hb dL_refuses_639 (by decide +kernel) ?_
  refine lv_icmp_eq (tgt := 658) C.hx C.hb dL_refuses_641 (by decide) (fun c9 => absurd c9 (by decide +kernel)) (fun _ => ?_)
  refine lv_iload C.hx C.hb dL_refuses_644 (lv_at hl 2 rfl) ?_
  refine lv_bipush (v := nI 16) C.hx C.hb dL_refuses_646 (by decide +kernel) ?_
  refine lv_icmp_eq (tgt := 658) C.hx C.hb dL_refuses_648 (by decide) (fun c9 => absurd c9 (by decide +kernel)) (fun _ => ?_)
  refine lv_iload C.hx C.hb dL_refuses_651 (lv_at hl 2 rfl) ?_
  refine lv_bipush (v := nI 18) C.hx C.hb dL_refuses_653 (by decide +kernel) ?_
  refine lv_icmp_ne (tgt := 681) C.hx C.hb dL_refuses_655 (by decide) (fun _ => ?_) (fun c9 => absurd c9 (by decide +kernel))
  refine lv_iinc (v := nI 6) (lv' := [(13, .int (nI 6)), (15, .int (nI 0)), (14, .int (nI 0)), (12, .int (nI 1)), (11, .int (-1)), (10, .int (-1)), (9, .int (-1)), (8, .int (-1)), (7, .int (-2)), (6, .int (-1)), (5, .int (nI 0)), (4, .int (nI (dfO g0 a a))), (3, .int (nI 2147483647)), (0, .ref (ad 70)), (1, .int (nI a)), (2, .int (nI b))]) C.hx C.hb dL_refuses_681 hl (k := 2) rfl (by decide +kernel) (by decide) rfl (fun ls hl => ?_)
  refine lv_goto (tgt := 459) C.hx C.hb dL_refuses_684 (by decide) ?_
  refine lv_iload C.hx C.hb dL_refuses_459 (lv_at hl 0 rfl) ?_
  refine lv_bipush (v := nI 20) C.hx C.hb dL_refuses_461 (by decide +kernel) ?_
  refine lv_icmp_ge (tgt := 687) C.hx C.hb dL_refuses_463 (by decide) (fun c9 => absurd c9 (by decide +kernel)) (fun _ => ?_)
  refine lv_iload C.hx C.hb dL_refuses_466 (lv_at hl 3 rfl) ?_
  refine lv_if_eq (tgt := 687) C.hx C.hb dL_refuses_468 (by decide) (fun c9 => absurd c9 (by decide +kernel)) (fun _ => ?_)
  refine lv_iload C.hx C.hb dL_refuses_471 (lv_at hl 0 rfl) ?_
  refine lv_iconst (v := nI 4) C.hx C.hb dL_refuses_473 (by decide +kernel) ?_
  refine lv_icmp_lt (tgt := 497) C.hx C.hb dL_refuses_474 (by decide) (fun c9 => absurd c9 (by decide +kernel)) (fun _ => ?_)
  refine lv_iload C.hx C.hb dL_refuses_477 (lv_at hl 0 rfl) ?_
  refine lv_iconst (v := nI 5) C.hx C.hb dL_refuses_479 (by decide +kernel) ?_
  refine lv_icmp_le (tgt := 490) C.hx C.hb dL_refuses_480 (by decide) (fun c9 => absurd c9 (by decide +kernel)) (fun _ => ?_)
  refine lv_iload C.hx C.hb dL_refuses_483 (lv_at hl 0 rfl) ?_
  refine lv_bipush (v := nI 15) C.hx C.hb dL_refuses_485 (by decide +kernel) ?_
  refine lv_icmp_lt (tgt := 497) C.hx C.hb dL_refuses_487 (by decide) (fun _ => ?_) (fun c9 => absurd c9 (by decide +kernel))
  refine lv_iconst (v := nI 1) C.hx C.hb dL_refuses_497 (by decide +kernel) ?_
  refine lv_goto (tgt := 502) C.hx C.hb dL_refuses_498 (by decide) ?_
  refine lv_istore (lv' := [(14, .int (nI 1)), (13, .int (nI 6)), (15, .int (nI 0)), (12, .int (nI 1)), (11, .int (-1)), (10, .int (-1)), (9, .int (-1)), (8, .int (-1)), (7, .int (-2)), (6, .int (-1)), (5, .int (nI 0)), (4, .int (nI (dfO g0 a a))), (3, .int (nI 2147483647)), (0, .ref (ad 70)), (1, .int (nI a)), (2, .int (nI b))]) C.hx C.hb dL_refuses_502 hl (by decide) rfl (fun ls hl => ?_)
  refine lv_iload C.hx C.hb dL_refuses_504 (lv_at hl 1 rfl) ?_
  refine lv_iconst (v := nI 3) C.hx C.hb dL_refuses_506 (by decide +kernel) ?_
  refine lv_icmp_eq (tgt := 531) C.hx C.hb dL_refuses_507 (by decide) (fun c9 => absurd c9 (by decide +kernel)) (fun _ => ?_)
  refine lv_iload C.hx C.hb dL_refuses_510 (lv_at hl 1 rfl) ?_
  refine lv_bipush (v := nI 7) C.hx C.hb dL_refuses_512 (by decide +kernel) ?_
  refine lv_icmp_le (tgt := 524) C.hx C.hb dL_refuses_514 (by decide) (fun _ => ?_) (fun c9 => absurd c9 (by decide +kernel))
  refine lv_iload C.hx C.hb dL_refuses_524 (lv_at hl 1 rfl) ?_
  refine lv_bipush (v := nI 19) C.hx C.hb dL_refuses_526 (by decide +kernel) ?_
  refine lv_icmp_ne (tgt := 535) C.hx C.hb dL_refuses_528 (by decide) (fun _ => ?_) (fun c9 => absurd c9 (by decide +kernel))
  exact kk g z H locs ls hs hP hD hS hl

set_option maxRecDepth 100000 in
set_option maxHeartbeats 4000000 in
theorem tf_7 {p : Program} {l : Launch} {e : Env} {s : State} {m : MethodId} {args : Array Value} {below : List Frame} {meth : Method} {c : Code} {D : va_G} {cA : ClassId} {A : Nat → Prop} {ad : Nat → Nat} {Q : State → Prop} {g0 : Nat → Nat → Int32} {a t b : Nat} (ha : a ≤ 16) (hb9 : b ≤ 40) (hab : 0 < a → 0 < b) (C : lcx p l s m c cL_refuses 16 D cA A) (kk : ∀ (g : Nat → Nat → Int32) (z : Nat → Nat) (H : Heap) (locs : List Loc) (ls : Array Slot), SR g0 a t b g z → va_P D vwCl (rlW cA ad g z) H → va_D A (rlW cA ad g z) → va_S A s.heap H locs → lv_has ls 16 [(15, .int (nI 0)), (14, .int (nI 1)), (13, .int (nI 7)), (12, .int (nI 1)), (11, .int (-1)), (10, .int (-1)), (9, .int (-1)), (8, .int (-1)), (7, .int (-2)), (6, .int (-1)), (5, .int (nI 0)), (4, .int (nI (dfO g0 a a))), (3, .int (nI 2147483647)), (0, .ref (ad 70)), (1, .int (nI a)), (2, .int (nI b))] → W p l e rm_Lr s m args below meth c H locs 23 138 Q (F0 m 560 ls [])) : ∀ (g : Nat → Nat → Int32) (z : Nat → Nat) (H : Heap) (locs : List Loc) (ls : Array Slot), SR g0 a t b g z → va_P D vwCl (rlW cA ad g z) H → va_D A (rlW cA ad g z) → va_S A s.heap H locs → lv_has ls 16 [(14, .int (nI 1)), (13, .int (nI 6)), (15, .int (nI 0)), (12, .int (nI 1)), (11, .int (-1)), (10, .int (-1)), (9, .int (-1)), (8, .int (-1)), (7, .int (-2)), (6, .int (-1)), (5, .int (nI 0)), (4, .int (nI (dfO g0 a a))), (3, .int (nI 2147483647)), (0, .ref (ad 70)), (1, .int (nI a)), (2, .int (nI b))] → W p l e rm_Lr s m args below meth c H locs 21 126 Q (F0 m 535 ls []) := by
  intro g z H locs ls hs hP hD hS hl
  refine lv_iconst (v := nI 0) C.hx C.hb dL_refuses_535 (by decide +kernel) ?_
  refine lv_istore (lv' := [(15, .int (nI 0)), (14, .int (nI 1)), (13, .int (nI 6)), (12, .int (nI 1)), (11, .int (-1)), (10, .int (-1)), (9, .int (-1)), (8, .int (-1)), (7, .int (-2)), (6, .int (-1)), (5, .int (nI 0)), (4, .int (nI (dfO g0 a a))), (3, .int (nI 2147483647)), (0, .ref (ad 70)), (1, .int (nI a)), (2, .int (nI b))]) C.hx C.hb dL_refuses_536 hl (by decide) rfl (fun ls hl => ?_)
  refine lv_iload C.hx C.hb dL_refuses_538 (lv_at hl 1 rfl) ?_
  refine lv_if_eq (tgt := 567) C.hx C.hb dL_refuses_540 (by decide) (fun c9 => absurd c9 (by decide +kernel)) (fun _ => ?_)
  refine lv_aload_n C.hx C.hb dL_refuses_543 rfl (lv_at hl 13 rfl) ?_
  refine lv_iload C.hx C.hb dL_refuses_544 (lv_at hl 2 rfl) ?_
  refine lv_iload C.hx C.hb dL_refuses_546 (lv_at hl 7 rfl) ?_
  refine lv_iconst (v := nI 0) C.hx C.hb dL_refuses_548 (by decide +kernel) ?_
  refine lv_bipush (v := nI 99) C.hx C.hb dL_refuses_549 (by decide +kernel) ?_
  refine lv_iconst (v := nI 0) C.hx C.hb dL_refuses_551 (by decide +kernel) ?_
  refine q_cR (w := 6) (p0 := -1) (p1 := nI 0) (p2 := nI 99) (p3 := nI 0) (r := -7000001) (c2 := 22) (s2 := 132) C hs hP hD hS (ri_year C.htr (notr (by decide +kernel) (by omega))) hl rfl (Nat.le_of_ble_eq_true rfl) ⟨Nat.le_of_ble_eq_true rfl, Nat.le_of_ble_eq_true rfl⟩ ⟨Nat.le_of_ble_eq_true rfl, Nat.le_of_ble_eq_true rfl⟩ ⟨Nat.le_of_ble_eq_true rfl, Nat.le_of_ble_eq_true rfl⟩ dL_refuses_552 (fun g z H locs hs hP hD hS => ?_)
  refine lv_ldc (v := -7000001) C.hx C.hb C.hown (C.hT.use kk_L_90 args) dL_refuses_555 ?_
  refine lv_icmp_ne (tgt := 564) C.hx C.hb dL_refuses_557 (by decide) (fun c9 => absurd c9 (by decide +kernel)) (fun _ => ?_)
  refine lv_iconst (v := nI 1) C.hx C.hb dL_refuses_560 (by decide +kernel) ?_
  refine lv_goto (tgt := 565) C.hx C.hb dL_refuses_561 (by decide) ?_
  refine lv_istore (lv' := [(12, .int (nI 1)), (15, .int (nI 0)), (14, .int (nI 1)), (13, .int (nI 6)), (11, .int (-1)), (10, .int (-1)), (9, .int (-1)), (8, .int (-1)), (7, .int (-2)), (6, .int (-1)), (5, .int (nI 0)), (4, .int (nI (dfO g0 a a))), (3, .int (nI 2147483647)), (0, .ref (ad 70)), (1, .int (nI a)), (2, .int (nI b))]) C.hx C.hb dL_refuses_565 hl (by decide) rfl (fun ls hl => ?_)
  refine lv_iload C.hx C.hb dL_refuses_567 (lv_at hl 1 rfl) ?_
  refine lv_if_eq (tgt := 637) C.hx C.hb dL_refuses_569 (by decide) (fun _ => ?_) (fun c9 => absurd c9 (by decide +kernel))
  refine lv_iload C.hx C.hb dL_refuses_637 (lv_at hl 3 rfl) ?_
  refine lv_bipush (v := nI 15) C.hx C.hb dL_refuses_639 (by decide +kernel) ?_
  refine lv_icmp_eq (tgt := 658) C.hx C.hb dL_refuses_641 (by decide) (fun c9 => absurd c9 (by decide +kernel)) (fun _ => ?_)
  refine lv_iload C.hx C.hb dL_refuses_644 (lv_at hl 3 rfl) ?_
  refine lv_bipush (v := nI 16) C.hx C.hb dL_refuses_646 (by decide +kernel) ?_
  refine lv_icmp_eq (tgt := 658) C.hx C.hb dL_refuses_648 (by decide) (fun c9 => absurd c9 (by decide +kernel)) (fun _ => ?_)
  refine lv_iload C.hx C.hb dL_refuses_651 (lv_at hl 3 rfl) ?_
  refine lv_bipush (v := nI 18) C.hx C.hb dL_refuses_653 (by decide +kernel) ?_
  refine lv_icmp_ne (tgt := 681) C.hx C.hb dL_refuses_655 (by decide) (fun _ => ?_) (fun c9 => absurd c9 (by decide +kernel))
  refine lv_iinc (v := nI 7) (lv' := [(13, .int (nI 7)), (12, .int (nI 1)), (15, .int (nI 0)), (14, .int (nI 1)), (11, .int (-1)), (10, .int (-1)), (9, .int (-1)), (8, .int (-1)), (7, .int (-2)), (6, .int (-1)), (5, .int (nI 0)), (4, .int (nI (dfO g0 a a))), (3, .int (nI 2147483647)), (0, .ref (ad 70)), (1, .int (nI a)), (2, .int (nI b))]) C.hx C.hb dL_refuses_681 hl (k := 3) rfl (by decide +kernel) (by decide) rfl (fun ls hl => ?_)
  refine lv_goto (tgt := 459) C.hx C.hb dL_refuses_684 (by decide) ?_
  refine lv_iload C.hx C.hb dL_refuses_459 (lv_at hl 0 rfl) ?_
  refine lv_bipush (v := nI 20) C.hx C.hb dL_refuses_461 (by decide +kernel) ?_
  refine lv_icmp_ge (tgt := 687) C.hx C.hb dL_refuses_463 (by decide) (fun c9 => absurd c9 (by decide +kernel)) (fun _ => ?_)
  refine lv_iload C.hx C.hb dL_refuses_466 (lv_at hl 1 rfl) ?_
  refine lv_if_eq (tgt := 687) C.hx C.hb dL_refuses_468 (by decide) (fun c9 => absurd c9 (by decide +kernel)) (fun _ => ?_)
  refine lv_iload C.hx C.hb dL_refuses_471 (lv_at hl 0 rfl) ?_
  refine lv_iconst (v := nI 4) C.hx C.hb dL_refuses_473 (by decide +kernel) ?_
  refine lv_icmp_lt (tgt := 497) C.hx C.hb dL_refuses_474 (by decide) (fun c9 => absurd c9 (by decide +kernel)) (fun _ => ?_)
  refine lv_iload C.hx C.hb dL_refuses_477 (lv_at hl 0 rfl) ?_
  refine lv_iconst (v := nI 5) C.hx C.hb dL_refuses_479 (by decide +kernel) ?_
  refine lv_icmp_le (tgt := 490) C.hx C.hb dL_refuses_480 (by decide) (fun c9 => absurd c9 (by decide +kernel)) (fun _ => ?_)
  refine lv_iload C.hx C.hb dL_refuses_483 (lv_at hl 0 rfl) ?_
  refine lv_bipush (v := nI 15) C.hx C.hb dL_refuses_485 (by decide +kernel) ?_
  refine lv_icmp_lt (tgt := 497) C.hx C.hb dL_refuses_487 (by decide) (fun _ => ?_) (fun c9 => absurd c9 (by decide +kernel))
  refine lv_iconst (v := nI 1) C.hx C.hb dL_refuses_497 (by decide +kernel) ?_
  refine lv_goto (tgt := 502) C.hx C.hb dL_refuses_498 (by decide) ?_
  refine lv_istore (lv' := [(14, .int (nI 1)), (13, .int (nI 7)), (12, .int (nI 1)), (15, .int (nI 0)), (11, .int (-1)), (10, .int (-1)), (9, .int (-1)), (8, .int (-1)), (7, .int (-2)), (6, .int (-1)), (5, .int (nI 0)), (4, .int (nI (dfO g0 a a))), (3, .int (nI 2147483647)), (0, .ref (ad 70)), (1, .int (nI a)), (2, .int (nI b))]) C.hx C.hb dL_refuses_502 hl (by decide) rfl (fun ls hl => ?_)
  refine lv_iload C.hx C.hb dL_refuses_504 (lv_at hl 1 rfl) ?_
  refine lv_iconst (v := nI 3) C.hx C.hb dL_refuses_506 (by decide +kernel) ?_
  refine lv_icmp_eq (tgt := 531) C.hx C.hb dL_refuses_507 (by decide) (fun c9 => absurd c9 (by decide +kernel)) (fun _ => ?_)
  refine lv_iload C.hx C.hb dL_refuses_510 (lv_at hl 1 rfl) ?_
  refine lv_bipush (v := nI 7) C.hx C.hb dL_refuses_512 (by decide +kernel) ?_
  refine lv_icmp_le (tgt := 524) C.hx C.hb dL_refuses_514 (by decide) (fun _ => ?_) (fun c9 => absurd c9 (by decide +kernel))
  refine lv_iload C.hx C.hb dL_refuses_524 (lv_at hl 1 rfl) ?_
  refine lv_bipush (v := nI 19) C.hx C.hb dL_refuses_526 (by decide +kernel) ?_
  refine lv_icmp_ne (tgt := 535) C.hx C.hb dL_refuses_528 (by decide) (fun _ => ?_) (fun c9 => absurd c9 (by decide +kernel))
  refine lv_iconst (v := nI 0) C.hx C.hb dL_refuses_535 (by decide +kernel) ?_
  refine lv_istore (lv' := [(15, .int (nI 0)), (14, .int (nI 1)), (13, .int (nI 7)), (12, .int (nI 1)), (11, .int (-1)), (10, .int (-1)), (9, .int (-1)), (8, .int (-1)), (7, .int (-2)), (6, .int (-1)), (5, .int (nI 0)), (4, .int (nI (dfO g0 a a))), (3, .int (nI 2147483647)), (0, .ref (ad 70)), (1, .int (nI a)), (2, .int (nI b))]) C.hx C.hb dL_refuses_536 hl (by decide) rfl (fun ls hl => ?_)
  refine lv_iload C.hx C.hb dL_refuses_538 (lv_at hl 1 rfl) ?_
  refine lv_if_eq (tgt := 567) C.hx C.hb dL_refuses_540 (by decide) (fun c9 => absurd c9 (by decide +kernel)) (fun _ => ?_)
  refine lv_aload_n C.hx C.hb dL_refuses_543 rfl (lv_at hl 13 rfl) ?_
  refine lv_iload C.hx C.hb dL_refuses_544 (lv_at hl 2 rfl) ?_
  refine lv_iload C.hx C.hb dL_refuses_546 (lv_at hl 7 rfl) ?_
  refine lv_iconst (v := nI 0) C.hx C.hb dL_refuses_548 (by decide +kernel) ?_
  refine lv_bipush (v := nI 99) C.hx C.hb dL_refuses_549 (by decide +kernel) ?_
  refine lv_iconst (v := nI 0) C.hx C.hb dL_refuses_551 (by decide +kernel) ?_
  refine q_cR (w := 7) (p0 := -1) (p1 := nI 0) (p2 := nI 99) (p3 := nI 0) (r := -7000001) (c2 := 23) (s2 := 138) C hs hP hD hS (ri_yearAnew C.htr (notr (by decide +kernel) (by omega))) hl rfl (Nat.le_of_ble_eq_true rfl) ⟨Nat.le_of_ble_eq_true rfl, Nat.le_of_ble_eq_true rfl⟩ ⟨Nat.le_of_ble_eq_true rfl, Nat.le_of_ble_eq_true rfl⟩ ⟨Nat.le_of_ble_eq_true rfl, Nat.le_of_ble_eq_true rfl⟩ dL_refuses_552 (fun g z H locs hs hP hD hS => ?_)
  refine lv_ldc (v := -7000001) C.hx C.hb C.hown (C.hT.use kk_L_90 args) dL_refuses_555 ?_
  refine lv_icmp_ne (tgt := 564) C.hx C.hb dL_refuses_557 (by decide) (fun c9 => absurd c9 (by decide +kernel)) (fun _ => ?_)
  exact kk g z H locs ls hs hP hD hS hl

set_option maxRecDepth 100000 in
set_option maxHeartbeats 4000000 in
theorem tf_8 {p : Program} {l : Launch} {e : Env} {s : State} {m : MethodId} {args : Array Value} {below : List Frame} {meth : Method} {c : Code} {D : va_G} {cA : ClassId} {A : Nat → Prop} {ad : Nat → Nat} {Q : State → Prop} {g0 : Nat → Nat → Int32} {a t b : Nat} (ha : a ≤ 16) (hb9 : b ≤ 40) (hab : 0 < a → 0 < b) (C : lcx p l s m c cL_refuses 16 D cA A) (kk : ∀ (g : Nat → Nat → Int32) (z : Nat → Nat) (H : Heap) (locs : List Loc) (ls : Array Slot), SR g0 a t b g z → va_P D vwCl (rlW cA ad g z) H → va_D A (rlW cA ad g z) → va_S A s.heap H locs → lv_has ls 16 [(12, .int (nI 1)), (15, .int (nI 1)), (14, .int (nI 1)), (13, .int (nI 8)), (11, .int (-1)), (10, .int (-1)), (9, .int (-1)), (8, .int (-1)), (7, .int (-2)), (6, .int (-1)), (5, .int (nI 0)), (4, .int (nI (dfO g0 a a))), (3, .int (nI 2147483647)), (0, .ref (ad 70)), (1, .int (nI a)), (2, .int (nI b))] → W p l e rm_Lr s m args below meth c H locs 24 144 Q (F0 m 572 ls [])) : ∀ (g : Nat → Nat → Int32) (z : Nat → Nat) (H : Heap) (locs : List Loc) (ls : Array Slot), SR g0 a t b g z → va_P D vwCl (rlW cA ad g z) H → va_D A (rlW cA ad g z) → va_S A s.heap H locs → lv_has ls 16 [(15, .int (nI 0)), (14, .int (nI 1)), (13, .int (nI 7)), (12, .int (nI 1)), (11, .int (-1)), (10, .int (-1)), (9, .int (-1)), (8, .int (-1)), (7, .int (-2)), (6, .int (-1)), (5, .int (nI 0)), (4, .int (nI (dfO g0 a a))), (3, .int (nI 2147483647)), (0, .ref (ad 70)), (1, .int (nI a)), (2, .int (nI b))] → W p l e rm_Lr s m args below meth c H locs 23 138 Q (F0 m 560 ls []) := by
  intro g z H locs ls hs hP hD hS hl
  refine lv_iconst (v := nI 1) C.hx C.hb dL_refuses_560 (by decide +kernel) ?_
  refine lv_goto (tgt := 565) C.hx C.hb dL_refuses_561 (by decide) ?_
  refine lv_istore (lv' := [(12, .int (nI 1)), (15, .int (nI 0)), (14, .int (nI 1)), (13, .int (nI 7)), (11, .int (-1)), (10, .int (-1)), (9, .int (-1)), (8, .int (-1)), (7, .int (-2)), (6, .int (-1)), (5, .int (nI 0)), (4, .int (nI (dfO g0 a a))), (3, .int (nI 2147483647)), (0, .ref (ad 70)), (1, .int (nI a)), (2, .int (nI b))]) C.hx C.hb dL_refuses_565 hl (by decide) rfl (fun ls hl => ?_)
  refine lv_iload C.hx C.hb dL_refuses_567 (lv_at hl 1 rfl) ?_
  refine lv_if_eq (tgt := 637) C.hx C.hb dL_refuses_569 (by decide) (fun _ => ?_) (fun c9 => absurd c9 (by decide +kernel))
  refine lv_iload C.hx C.hb dL_refuses_637 (lv_at hl 3 rfl) ?_
  refine lv_bipush (v := nI 15) C.hx C.hb dL_refuses_639 (by decide +kernel) ?_
  refine lv_icmp_eq (tgt := 658) C.hx C.hb dL_refuses_641 (by decide) (fun c9 => absurd c9 (by decide +kernel)) (fun _ => ?_)
  refine lv_iload C.hx C.hb dL_refuses_644 (lv_at hl 3 rfl) ?_
  refine lv_bipush (v := nI 16) C.hx C.hb dL_refuses_646 (by decide +kernel) ?_
  refine lv_icmp_eq (tgt := 658) C.hx C.hb dL_refuses_648 (by decide) (fun c9 => absurd c9 (by decide +kernel)) (fun _ => ?_)
  refine lv_iload C.hx C.hb dL_refuses_651 (lv_at hl 3 rfl) ?_
  refine lv_bipush (v := nI 18) C.hx C.hb dL_refuses_653 (by decide +kernel) ?_
  refine lv_icmp_ne (tgt := 681) C.hx C.hb dL_refuses_655 (by decide) (fun _ => ?_) (fun c9 => absurd c9 (by decide +kernel))
  refine lv_iinc (v := nI 8) (lv' := [(13, .int (nI 8)), (12, .int (nI 1)), (15, .int (nI 0)), (14, .int (nI 1)), (11, .int (-1)), (10, .int (-1)), (9, .int (-1)), (8, .int (-1)), (7, .int (-2)), (6, .int (-1)), (5, .int (nI 0)), (4, .int (nI (dfO g0 a a))), (3, .int (nI 2147483647)), (0, .ref (ad 70)), (1, .int (nI a)), (2, .int (nI b))]) C.hx C.hb dL_refuses_681 hl (k := 3) rfl (by decide +kernel) (by decide) rfl (fun ls hl => ?_)
  refine lv_goto (tgt := 459) C.hx C.hb dL_refuses_684 (by decide) ?_
  refine lv_iload C.hx C.hb dL_refuses_459 (lv_at hl 0 rfl) ?_
  refine lv_bipush (v := nI 20) C.hx C.hb dL_refuses_461 (by decide +kernel) ?_
  refine lv_icmp_ge (tgt := 687) C.hx C.hb dL_refuses_463 (by decide) (fun c9 => absurd c9 (by decide +kernel)) (fun _ => ?_)
  refine lv_iload C.hx C.hb dL_refuses_466 (lv_at hl 1 rfl) ?_
  refine lv_if_eq (tgt := 687) C.hx C.hb dL_refuses_468 (by decide) (fun c9 => absurd c9 (by decide +kernel)) (fun _ => ?_)
  refine lv_iload C.hx C.hb dL_refuses_471 (lv_at hl 0 rfl) ?_
  refine lv_iconst (v := nI 4) C.hx C.hb dL_refuses_473 (by decide +kernel) ?_
  refine lv_icmp_lt (tgt := 497) C.hx C.hb dL_refuses_474 (by decide) (fun c9 => absurd c9 (by decide +kernel)) (fun _ => ?_)
  refine lv_iload C.hx C.hb dL_refuses_477 (lv_at hl 0 rfl) ?_
  refine lv_iconst (v := nI 5) C.hx C.hb dL_refuses_479 (by decide +kernel) ?_
  refine lv_icmp_le (tgt := 490) C.hx C.hb dL_refuses_480 (by decide) (fun c9 => absurd c9 (by decide +kernel)) (fun _ => ?_)
  refine lv_iload C.hx C.hb dL_refuses_483 (lv_at hl 0 rfl) ?_
  refine lv_bipush (v := nI 15) C.hx C.hb dL_refuses_485 (by decide +kernel) ?_
  refine lv_icmp_lt (tgt := 497) C.hx C.hb dL_refuses_487 (by decide) (fun _ => ?_) (fun c9 => absurd c9 (by decide +kernel))
  refine lv_iconst (v := nI 1) C.hx C.hb dL_refuses_497 (by decide +kernel) ?_
  refine lv_goto (tgt := 502) C.hx C.hb dL_refuses_498 (by decide) ?_
  refine lv_istore (lv' := [(14, .int (nI 1)), (13, .int (nI 8)), (12, .int (nI 1)), (15, .int (nI 0)), (11, .int (-1)), (10, .int (-1)), (9, .int (-1)), (8, .int (-1)), (7, .int (-2)), (6, .int (-1)), (5, .int (nI 0)), (4, .int (nI (dfO g0 a a))), (3, .int (nI 2147483647)), (0, .ref (ad 70)), (1, .int (nI a)), (2, .int (nI b))]) C.hx C.hb dL_refuses_502 hl (by decide) rfl (fun ls hl => ?_)
  refine lv_iload C.hx C.hb dL_refuses_504 (lv_at hl 1 rfl) ?_
  refine lv_iconst (v := nI 3) C.hx C.hb dL_refuses_506 (by decide +kernel) ?_
  refine lv_icmp_eq (tgt := 531) C.hx C.hb dL_refuses_507 (by decide) (fun c9 => absurd c9 (by decide +kernel)) (fun _ => ?_)
  refine lv_iload C.hx C.hb dL_refuses_510 (lv_at hl 1 rfl) ?_
  refine lv_bipush (v := nI 7) C.hx C.hb dL_refuses_512 (by decide +kernel) ?_
  refine lv_icmp_le (tgt := 524) C.hx C.hb dL_refuses_514 (by decide) (fun c9 => absurd c9 (by decide +kernel)) (fun _ => ?_)
  refine lv_iload C.hx C.hb dL_refuses_517 (lv_at hl 1 rfl) ?_
  refine lv_bipush (v := nI 13) C.hx C.hb dL_refuses_519 (by decide +kernel) ?_
  refine lv_icmp_lt (tgt := 531) C.hx C.hb dL_refuses_521 (by decide) (fun _ => ?_) (fun c9 => absurd c9 (by decide +kernel))
  refine lv_iconst (v := nI 1) C.hx C.hb dL_refuses_531 (by decide +kernel) ?_
  refine lv_goto (tgt := 536) C.hx C.hb dL_refuses_532 (by decide) ?_
  refine lv_istore (lv' := [(15, .int (nI 1)), (14, .int (nI 1)), (13, .int (nI 8)), (12, .int (nI 1)), (11, .int (-1)), (10, .int (-1)), (9, .int (-1)), (8, .int (-1)), (7, .int (-2)), (6, .int (-1)), (5, .int (nI 0)), (4, .int (nI (dfO g0 a a))), (3, .int (nI 2147483647)), (0, .ref (ad 70)), (1, .int (nI a)), (2, .int (nI b))]) C.hx C.hb dL_refuses_536 hl (by decide) rfl (fun ls hl => ?_)
  refine lv_iload C.hx C.hb dL_refuses_538 (lv_at hl 1 rfl) ?_
  refine lv_if_eq (tgt := 567) C.hx C.hb dL_refuses_540 (by decide) (fun c9 => absurd c9 (by decide +kernel)) (fun _ => ?_)
  refine lv_aload_n C.hx C.hb dL_refuses_543 rfl (lv_at hl 13 rfl) ?_
  refine lv_iload C.hx C.hb dL_refuses_544 (lv_at hl 2 rfl) ?_
  refine lv_iload C.hx C.hb dL_refuses_546 (lv_at hl 7 rfl) ?_
  refine lv_iconst (v := nI 0) C.hx C.hb dL_refuses_548 (by decide +kernel) ?_
  refine lv_bipush (v := nI 99) C.hx C.hb dL_refuses_549 (by decide +kernel) ?_
  refine lv_iconst (v := nI 0) C.hx C.hb dL_refuses_551 (by decide +kernel) ?_
  refine q_cR (w := 8) (p0 := -1) (p1 := nI 0) (p2 := nI 99) (p3 := nI 0) (r := -7000001) (c2 := 24) (s2 := 144) C hs hP hD hS (ri_seal C.htr (notr (by decide +kernel) (by omega))) hl rfl (Nat.le_of_ble_eq_true rfl) ⟨Nat.le_of_ble_eq_true rfl, Nat.le_of_ble_eq_true rfl⟩ ⟨Nat.le_of_ble_eq_true rfl, Nat.le_of_ble_eq_true rfl⟩ ⟨Nat.le_of_ble_eq_true rfl, Nat.le_of_ble_eq_true rfl⟩ dL_refuses_552 (fun g z H locs hs hP hD hS => ?_)
  refine lv_ldc (v := -7000001) C.hx C.hb C.hown (C.hT.use kk_L_90 args) dL_refuses_555 ?_
  refine lv_icmp_ne (tgt := 564) C.hx C.hb dL_refuses_557 (by decide) (fun c9 => absurd c9 (by decide +kernel)) (fun _ => ?_)
  refine lv_iconst (v := nI 1) C.hx C.hb dL_refuses_560 (by decide +kernel) ?_
  refine lv_goto (tgt := 565) C.hx C.hb dL_refuses_561 (by decide) ?_
  refine lv_istore (lv' := [(12, .int (nI 1)), (15, .int (nI 1)), (14, .int (nI 1)), (13, .int (nI 8)), (11, .int (-1)), (10, .int (-1)), (9, .int (-1)), (8, .int (-1)), (7, .int (-2)), (6, .int (-1)), (5, .int (nI 0)), (4, .int (nI (dfO g0 a a))), (3, .int (nI 2147483647)), (0, .ref (ad 70)), (1, .int (nI a)), (2, .int (nI b))]) C.hx C.hb dL_refuses_565 hl (by decide) rfl (fun ls hl => ?_)
  refine lv_iload C.hx C.hb dL_refuses_567 (lv_at hl 1 rfl) ?_
  refine lv_if_eq (tgt := 637) C.hx C.hb dL_refuses_569 (by decide) (fun c9 => absurd c9 (by decide +kernel)) (fun _ => ?_)
  exact kk g z H locs ls hs hP hD hS hl

set_option maxRecDepth 100000 in
set_option maxHeartbeats 4000000 in
theorem tf_9 {p : Program} {l : Launch} {e : Env} {s : State} {m : MethodId} {args : Array Value} {below : List Frame} {meth : Method} {c : Code} {D : va_G} {cA : ClassId} {A : Nat → Prop} {ad : Nat → Nat} {Q : State → Prop} {g0 : Nat → Nat → Int32} {a t b : Nat} (ha : a ≤ 16) (hb9 : b ≤ 40) (hab : 0 < a → 0 < b) (C : lcx p l s m c cL_refuses 16 D cA A) (kk : ∀ (g : Nat → Nat → Int32) (z : Nat → Nat) (H : Heap) (locs : List Loc) (ls : Array Slot), SR g0 a t b g z → va_P D vwCl (rlW cA ad g z) H → va_D A (rlW cA ad g z) → va_S A s.heap H locs → lv_has ls 16 [(12, .int (nI 1)), (15, .int (nI 1)), (14, .int (nI 1)), (13, .int (nI 8)), (11, .int (-1)), (10, .int (-1)), (9, .int (-1)), (8, .int (-1)), (7, .int (-2)), (6, .int (-1)), (5, .int (nI 0)), (4, .int (nI (dfO g0 a a))), (3, .int (nI 2147483647)), (0, .ref (ad 70)), (1, .int (nI a)), (2, .int (nI b))] → W p l e rm_Lr s m args below meth c H locs 27 162 Q (F0 m 630 ls [])) : ∀ (g : Nat → Nat → Int32) (z : Nat → Nat) (H : Heap) (locs : List Loc) (ls : Array Slot), SR g0 a t b g z → va_P D vwCl (rlW cA ad g z) H → va_D A (rlW cA ad g z) → va_S A s.heap H locs → lv_has ls 16 [(12, .int (nI 1)), (15, .int (nI 1)), (14, .int (nI 1)), (13, .int (nI 8)), (11, .int (-1)), (10, .int (-1)), (9, .int (-1)), (8, .int (-1)), (7, .int (-2)), (6, .int (-1)), (5, .int (nI 0)), (4, .int (nI (dfO g0 a a))), (3, .int (nI 2147483647)), (0, .ref (ad 70)), (1, .int (nI a)), (2, .int (nI b))] → W p l e rm_Lr s m args below meth c H locs 24 144 Q (F0 m 572 ls []) := by
  intro g z H locs ls hs hP hD hS hl
  refine lv_iload C.hx C.hb dL_refuses_572 (lv_at hl 0 rfl) ?_
  refine lv_if_eq (tgt := 634) C.hx C.hb dL_refuses_574 (by decide) (fun c9 => absurd c9 (by decide +kernel)) (fun _ => ?_)
  refine lv_aload_n C.hx C.hb dL_refuses_577 rfl (lv_at hl 13 rfl) ?_
  refine lv_iload C.hx C.hb dL_refuses_578 (lv_at hl 3 rfl) ?_
  refine lv_iconst (v := nI 0) C.hx C.hb dL_refuses_580 (by decide +kernel) ?_
  refine lv_iload C.hx C.hb dL_refuses_581 (lv_at hl 7 rfl) ?_
  refine lv_bipush (v := nI 99) C.hx C.hb dL_refuses_583 (by decide +kernel) ?_
  refine lv_iconst (v := nI 0) C.hx C.hb dL_refuses_585 (by decide +kernel) ?_
  refine q_cR (w := 8) (p0 := nI 0) (p1 := -1) (p2 := nI 99) (p3 := nI 0) (r := -7000001) (c2 := 25) (s2 := 150) C hs hP hD hS (rj_seal C.htr (notr (by decide +kernel) (by omega))) hl rfl (Nat.le_of_ble_eq_true rfl) ⟨Nat.le_of_ble_eq_true rfl, Nat.le_of_ble_eq_true rfl⟩ ⟨Nat.le_of_ble_eq_true rfl, Nat.le_of_ble_eq_true rfl⟩ ⟨Nat.le_of_ble_eq_true rfl, Nat.le_of_ble_eq_true rfl⟩ dL_refuses_586 (fun g z H locs hs hP hD hS => ?_)
  refine lv_ldc (v := -7000001) C.hx C.hb C.hown (C.hT.use kk_L_90 args) dL_refuses_589 ?_
  refine lv_icmp_ne (tgt := 634) C.hx C.hb dL_refuses_591 (by decide) (fun c9 => absurd c9 (by decide +kernel)) (fun _ => ?_)
  refine lv_aload_n C.hx C.hb dL_refuses_594 rfl (lv_at hl 13 rfl) ?_
  refine lv_iload C.hx C.hb dL_refuses_595 (lv_at hl 3 rfl) ?_
  refine lv_iload C.hx C.hb dL_refuses_597 (lv_at hl 7 rfl) ?_
  refine lv_iload C.hx C.hb dL_refuses_599 (lv_at hl 7 rfl) ?_
  refine lv_iconst (v := nI 0) C.hx C.hb dL_refuses_601 (by decide +kernel) ?_
  refine lv_iconst (v := nI 0) C.hx C.hb dL_refuses_602 (by decide +kernel) ?_
  refine q_cR (w := 8) (p0 := -1) (p1 := -1) (p2 := nI 0) (p3 := nI 0) (r := -7000001) (c2 := 26) (s2 := 156) C hs hP hD hS (ri_seal C.htr (notr (by decide +kernel) (by omega))) hl rfl (Nat.le_of_ble_eq_true rfl) ⟨Nat.le_of_ble_eq_true rfl, Nat.le_of_ble_eq_true rfl⟩ ⟨Nat.le_of_ble_eq_true rfl, Nat.le_of_ble_eq_true rfl⟩ ⟨Nat.le_of_ble_eq_true rfl, Nat.le_of_ble_eq_true rfl⟩ dL_refuses_603 (fun g z H locs hs hP hD hS => ?_)
  refine lv_ldc (v := -7000001) C.hx C.hb C.hown (C.hT.use kk_L_90 args) dL_refuses_606 ?_
  refine lv_icmp_ne (tgt := 634) C.hx C.hb dL_refuses_608 (by decide) (fun c9 => absurd c9 (by decide +kernel)) (fun _ => ?_)
  refine lv_iload_n C.hx C.hb dL_refuses_611 rfl (lv_at hl 14 rfl) ?_
  refine lv_if_eq (tgt := 630) C.hx C.hb dL_refuses_612 (by decide) (fun c9 => ?_) (fun c9 => ?_)
  · refine W.widen (k := 27) (n := 162) (Nat.le_of_ble_eq_true rfl) (Nat.le_of_ble_eq_true rfl) ?_
    exact kk g z H locs ls hs hP hD hS hl
  · have ha0 : 0 < a := Nat.pos_of_ne_zero (fun q => c9 (by rw [q]; rfl))
    have hb0 : 0 < b := hab ha0
    refine lv_aload_n C.hx C.hb dL_refuses_615 rfl (lv_at hl 13 rfl) ?_
    refine lv_iload C.hx C.hb dL_refuses_616 (lv_at hl 3 rfl) ?_
    refine lv_iconst (v := nI 0) C.hx C.hb dL_refuses_618 (by decide +kernel) ?_
    refine lv_iconst (v := nI 0) C.hx C.hb dL_refuses_619 (by decide +kernel) ?_
    refine lv_iconst (v := nI 0) C.hx C.hb dL_refuses_620 (by decide +kernel) ?_
    refine lv_iconst (v := nI 0) C.hx C.hb dL_refuses_621 (by decide +kernel) ?_
    refine q_cR (w := 8) (p0 := nI 0) (p1 := nI 0) (p2 := nI 0) (p3 := nI 0) (r := -7000002) (c2 := 27) (s2 := 162) C hs hP hD hS (rs_seal C.htr (q_r_nI (by omega))) hl rfl (Nat.le_of_ble_eq_true rfl) ⟨Nat.le_of_ble_eq_true rfl, Nat.le_of_ble_eq_true rfl⟩ ⟨Nat.le_of_ble_eq_true rfl, Nat.le_of_ble_eq_true rfl⟩ ⟨Nat.le_of_ble_eq_true rfl, Nat.le_of_ble_eq_true rfl⟩ dL_refuses_622 (fun g z H locs hs hP hD hS => ?_)
    refine lv_ldc (v := -7000002) C.hx C.hb C.hown (C.hT.use kk_L_93 args) dL_refuses_625 ?_
    refine lv_icmp_ne (tgt := 634) C.hx C.hb dL_refuses_627 (by decide) (fun c9 => absurd c9 (by decide +kernel)) (fun _ => ?_)
    exact kk g z H locs ls hs hP hD hS hl

set_option maxRecDepth 100000 in
set_option maxHeartbeats 4000000 in
theorem tf_10 {p : Program} {l : Launch} {e : Env} {s : State} {m : MethodId} {args : Array Value} {below : List Frame} {meth : Method} {c : Code} {D : va_G} {cA : ClassId} {A : Nat → Prop} {ad : Nat → Nat} {Q : State → Prop} {g0 : Nat → Nat → Int32} {a t b : Nat} (ha : a ≤ 16) (hb9 : b ≤ 40) (hab : 0 < a → 0 < b) (C : lcx p l s m c cL_refuses 16 D cA A) (kk : ∀ (g : Nat → Nat → Int32) (z : Nat → Nat) (H : Heap) (locs : List Loc) (ls : Array Slot), SR g0 a t b g z → va_P D vwCl (rlW cA ad g z) H → va_D A (rlW cA ad g z) → va_S A s.heap H locs → lv_has ls 16 [(12, .int (nI 1)), (15, .int (nI 1)), (14, .int (nI 1)), (13, .int (nI 9)), (11, .int (-1)), (10, .int (-1)), (9, .int (-1)), (8, .int (-1)), (7, .int (-2)), (6, .int (-1)), (5, .int (nI 0)), (4, .int (nI (dfO g0 a a))), (3, .int (nI 2147483647)), (0, .ref (ad 70)), (1, .int (nI a)), (2, .int (nI b))] → W p l e rm_Lr s m args below meth c H locs 28 168 Q (F0 m 577 ls [])) : ∀ (g : Nat → Nat → Int32) (z : Nat → Nat) (H : Heap) (locs : List Loc) (ls : Array Slot), SR g0 a t b g z → va_P D vwCl (rlW cA ad g z) H → va_D A (rlW cA ad g z) → va_S A s.heap H locs → lv_has ls 16 [(12, .int (nI 1)), (15, .int (nI 1)), (14, .int (nI 1)), (13, .int (nI 8)), (11, .int (-1)), (10, .int (-1)), (9, .int (-1)), (8, .int (-1)), (7, .int (-2)), (6, .int (-1)), (5, .int (nI 0)), (4, .int (nI (dfO g0 a a))), (3, .int (nI 2147483647)), (0, .ref (ad 70)), (1, .int (nI a)), (2, .int (nI b))] → W p l e rm_Lr s m args below meth c H locs 27 162 Q (F0 m 630 ls []) := by
  intro g z H locs ls hs hP hD hS hl
  refine lv_iconst (v := nI 1) C.hx C.hb dL_refuses_630 (by decide +kernel) ?_
  refine lv_goto (tgt := 635) C.hx C.hb dL_refuses_631 (by decide) ?_
  refine lv_istore (lv' := [(12, .int (nI 1)), (15, .int (nI 1)), (14, .int (nI 1)), (13, .int (nI 8)), (11, .int (-1)), (10, .int (-1)), (9, .int (-1)), (8, .int (-1)), (7, .int (-2)), (6, .int (-1)), (5, .int (nI 0)), (4, .int (nI (dfO g0 a a))), (3, .int (nI 2147483647)), (0, .ref (ad 70)), (1, .int (nI a)), (2, .int (nI b))]) C.hx C.hb dL_refuses_635 hl (by decide) rfl (fun ls hl => ?_)
  refine lv_iload C.hx C.hb dL_refuses_637 (lv_at hl 3 rfl) ?_
  refine lv_bipush (v := nI 15) C.hx C.hb dL_refuses_639 (by decide +kernel) ?_
  refine lv_icmp_eq (tgt := 658) C.hx C.hb dL_refuses_641 (by decide) (fun c9 => absurd c9 (by decide +kernel)) (fun _ => ?_)
  refine lv_iload C.hx C.hb dL_refuses_644 (lv_at hl 3 rfl) ?_
  refine lv_bipush (v := nI 16) C.hx C.hb dL_refuses_646 (by decide +kernel) ?_
  refine lv_icmp_eq (tgt := 658) C.hx C.hb dL_refuses_648 (by decide) (fun c9 => absurd c9 (by decide +kernel)) (fun _ => ?_)
  refine lv_iload C.hx C.hb dL_refuses_651 (lv_at hl 3 rfl) ?_
  refine lv_bipush (v := nI 18) C.hx C.hb dL_refuses_653 (by decide +kernel) ?_
  refine lv_icmp_ne (tgt := 681) C.hx C.hb dL_refuses_655 (by decide) (fun _ => ?_) (fun c9 => absurd c9 (by decide +kernel))
  refine lv_iinc (v := nI 9) (lv' := [(13, .int (nI 9)), (12, .int (nI 1)), (15, .int (nI 1)), (14, .int (nI 1)), (11, .int (-1)), (10, .int (-1)), (9, .int (-1)), (8, .int (-1)), (7, .int (-2)), (6, .int (-1)), (5, .int (nI 0)), (4, .int (nI (dfO g0 a a))), (3, .int (nI 2147483647)), (0, .ref (ad 70)), (1, .int (nI a)), (2, .int (nI b))]) C.hx C.hb dL_refuses_681 hl (k := 3) rfl (by decide +kernel) (by decide) rfl (fun ls hl => ?_)
  refine lv_goto (tgt := 459) C.hx C.hb dL_refuses_684 (by decide) ?_
  refine lv_iload C.hx C.hb dL_refuses_459 (lv_at hl 0 rfl) ?_
  refine lv_bipush (v := nI 20) C.hx C.hb dL_refuses_461 (by decide +kernel) ?_
  refine lv_icmp_ge (tgt := 687) C.hx C.hb dL_refuses_463 (by decide) (fun c9 => absurd c9 (by decide +kernel)) (fun _ => ?_)
  refine lv_iload C.hx C.hb dL_refuses_466 (lv_at hl 1 rfl) ?_
  refine lv_if_eq (tgt := 687) C.hx C.hb dL_refuses_468 (by decide) (fun c9 => absurd c9 (by decide +kernel)) (fun _ => ?_)
  refine lv_iload C.hx C.hb dL_refuses_471 (lv_at hl 0 rfl) ?_
  refine lv_iconst (v := nI 4) C.hx C.hb dL_refuses_473 (by decide +kernel) ?_
  refine lv_icmp_lt (tgt := 497) C.hx C.hb dL_refuses_474 (by decide) (fun c9 => absurd c9 (by decide +kernel)) (fun _ => ?_)
  refine lv_iload C.hx C.hb dL_refuses_477 (lv_at hl 0 rfl) ?_
  refine lv_iconst (v := nI 5) C.hx C.hb dL_refuses_479 (by decide +kernel) ?_
  refine lv_icmp_le (tgt := 490) C.hx C.hb dL_refuses_480 (by decide) (fun c9 => absurd c9 (by decide +kernel)) (fun _ => ?_)
  refine lv_iload C.hx C.hb dL_refuses_483 (lv_at hl 0 rfl) ?_
  refine lv_bipush (v := nI 15) C.hx C.hb dL_refuses_485 (by decide +kernel) ?_
  refine lv_icmp_lt (tgt := 497) C.hx C.hb dL_refuses_487 (by decide) (fun _ => ?_) (fun c9 => absurd c9 (by decide +kernel))
  refine lv_iconst (v := nI 1) C.hx C.hb dL_refuses_497 (by decide +kernel) ?_
  refine lv_goto (tgt := 502) C.hx C.hb dL_refuses_498 (by decide) ?_
  refine lv_istore (lv' := [(14, .int (nI 1)), (13, .int (nI 9)), (12, .int (nI 1)), (15, .int (nI 1)), (11, .int (-1)), (10, .int (-1)), (9, .int (-1)), (8, .int (-1)), (7, .int (-2)), (6, .int (-1)), (5, .int (nI 0)), (4, .int (nI (dfO g0 a a))), (3, .int (nI 2147483647)), (0, .ref (ad 70)), (1, .int (nI a)), (2, .int (nI b))]) C.hx C.hb dL_refuses_502 hl (by decide) rfl (fun ls hl => ?_)
  refine lv_iload C.hx C.hb dL_refuses_504 (lv_at hl 1 rfl) ?_
  refine lv_iconst (v := nI 3) C.hx C.hb dL_refuses_506 (by decide +kernel) ?_
  refine lv_icmp_eq (tgt := 531) C.hx C.hb dL_refuses_507 (by decide) (fun c9 => absurd c9 (by decide +kernel)) (fun _ => ?_)
  refine lv_iload C.hx C.hb dL_refuses_510 (lv_at hl 1 rfl) ?_
  refine lv_bipush (v := nI 7) C.hx C.hb dL_refuses_512 (by decide +kernel) ?_
  refine lv_icmp_le (tgt := 524) C.hx C.hb dL_refuses_514 (by decide) (fun c9 => absurd c9 (by decide +kernel)) (fun _ => ?_)
  refine lv_iload C.hx C.hb dL_refuses_517 (lv_at hl 1 rfl) ?_
  refine lv_bipush (v := nI 13) C.hx C.hb dL_refuses_519 (by decide +kernel) ?_
  refine lv_icmp_lt (tgt := 531) C.hx C.hb dL_refuses_521 (by decide) (fun _ => ?_) (fun c9 => absurd c9 (by decide +kernel))
  refine lv_iconst (v := nI 1) C.hx C.hb dL_refuses_531 (by decide +kernel) ?_
  refine lv_goto (tgt := 536) C.hx C.hb dL_refuses_532 (by decide) ?_
  refine lv_istore (lv' := [(15, .int (nI 1)), (14, .int (nI 1)), (13, .int (nI 9)), (12, .int (nI 1)), (11, .int (-1)), (10, .int (-1)), (9, .int (-1)), (8, .int (-1)), (7, .int (-2)), (6, .int (-1)), (5, .int (nI 0)), (4, .int (nI (dfO g0 a a))), (3, .int (nI 2147483647)), (0, .ref (ad 70)), (1, .int (nI a)), (2, .int (nI b))]) C.hx C.hb dL_refuses_536 hl (by decide) rfl (fun ls hl => ?_)
  refine lv_iload C.hx C.hb dL_refuses_538 (lv_at hl 1 rfl) ?_
  refine lv_if_eq (tgt := 567) C.hx C.hb dL_refuses_540 (by decide) (fun c9 => absurd c9 (by decide +kernel)) (fun _ => ?_)
  refine lv_aload_n C.hx C.hb dL_refuses_543 rfl (lv_at hl 13 rfl) ?_
  refine lv_iload C.hx C.hb dL_refuses_544 (lv_at hl 2 rfl) ?_
  refine lv_iload C.hx C.hb dL_refuses_546 (lv_at hl 7 rfl) ?_
  refine lv_iconst (v := nI 0) C.hx C.hb dL_refuses_548 (by decide +kernel) ?_
  refine lv_bipush (v := nI 99) C.hx C.hb dL_refuses_549 (by decide +kernel) ?_
  refine lv_iconst (v := nI 0) C.hx C.hb dL_refuses_551 (by decide +kernel) ?_
  refine q_cR (w := 9) (p0 := -1) (p1 := nI 0) (p2 := nI 99) (p3 := nI 0) (r := -7000001) (c2 := 28) (s2 := 168) C hs hP hD hS (ri_block C.htr (notr (by decide +kernel) (by omega))) hl rfl (Nat.le_of_ble_eq_true rfl) ⟨Nat.le_of_ble_eq_true rfl, Nat.le_of_ble_eq_true rfl⟩ ⟨Nat.le_of_ble_eq_true rfl, Nat.le_of_ble_eq_true rfl⟩ ⟨Nat.le_of_ble_eq_true rfl, Nat.le_of_ble_eq_true rfl⟩ dL_refuses_552 (fun g z H locs hs hP hD hS => ?_)
  refine lv_ldc (v := -7000001) C.hx C.hb C.hown (C.hT.use kk_L_90 args) dL_refuses_555 ?_
  refine lv_icmp_ne (tgt := 564) C.hx C.hb dL_refuses_557 (by decide) (fun c9 => absurd c9 (by decide +kernel)) (fun _ => ?_)
  refine lv_iconst (v := nI 1) C.hx C.hb dL_refuses_560 (by decide +kernel) ?_
  refine lv_goto (tgt := 565) C.hx C.hb dL_refuses_561 (by decide) ?_
  refine lv_istore (lv' := [(12, .int (nI 1)), (15, .int (nI 1)), (14, .int (nI 1)), (13, .int (nI 9)), (11, .int (-1)), (10, .int (-1)), (9, .int (-1)), (8, .int (-1)), (7, .int (-2)), (6, .int (-1)), (5, .int (nI 0)), (4, .int (nI (dfO g0 a a))), (3, .int (nI 2147483647)), (0, .ref (ad 70)), (1, .int (nI a)), (2, .int (nI b))]) C.hx C.hb dL_refuses_565 hl (by decide) rfl (fun ls hl => ?_)
  refine lv_iload C.hx C.hb dL_refuses_567 (lv_at hl 1 rfl) ?_
  refine lv_if_eq (tgt := 637) C.hx C.hb dL_refuses_569 (by decide) (fun c9 => absurd c9 (by decide +kernel)) (fun _ => ?_)
  refine lv_iload C.hx C.hb dL_refuses_572 (lv_at hl 0 rfl) ?_
  refine lv_if_eq (tgt := 634) C.hx C.hb dL_refuses_574 (by decide) (fun c9 => absurd c9 (by decide +kernel)) (fun _ => ?_)
  exact kk g z H locs ls hs hP hD hS hl

set_option maxRecDepth 100000 in
set_option maxHeartbeats 4000000 in
theorem tf_11 {p : Program} {l : Launch} {e : Env} {s : State} {m : MethodId} {args : Array Value} {below : List Frame} {meth : Method} {c : Code} {D : va_G} {cA : ClassId} {A : Nat → Prop} {ad : Nat → Nat} {Q : State → Prop} {g0 : Nat → Nat → Int32} {a t b : Nat} (ha : a ≤ 16) (hb9 : b ≤ 40) (hab : 0 < a → 0 < b) (C : lcx p l s m c cL_refuses 16 D cA A) (kk : ∀ (g : Nat → Nat → Int32) (z : Nat → Nat) (H : Heap) (locs : List Loc) (ls : Array Slot), SR g0 a t b g z → va_P D vwCl (rlW cA ad g z) H → va_D A (rlW cA ad g z) → va_S A s.heap H locs → lv_has ls 16 [(12, .int (nI 1)), (15, .int (nI 1)), (14, .int (nI 1)), (13, .int (nI 9)), (11, .int (-1)), (10, .int (-1)), (9, .int (-1)), (8, .int (-1)), (7, .int (-2)), (6, .int (-1)), (5, .int (nI 0)), (4, .int (nI (dfO g0 a a))), (3, .int (nI 2147483647)), (0, .ref (ad 70)), (1, .int (nI a)), (2, .int (nI b))] → W p l e rm_Lr s m args below meth c H locs 31 186 Q (F0 m 630 ls [])) : ∀ (g : Nat → Nat → Int32) (z : Nat → Nat) (H : Heap) (locs : List Loc) (ls : Array Slot), SR g0 a t b g z → va_P D vwCl (rlW cA ad g z) H → va_D A (rlW cA ad g z) → va_S A s.heap H locs → lv_has ls 16 [(12, .int (nI 1)), (15, .int (nI 1)), (14, .int (nI 1)), (13, .int (nI 9)), (11, .int (-1)), (10, .int (-1)), (9, .int (-1)), (8, .int (-1)), (7, .int (-2)), (6, .int (-1)), (5, .int (nI 0)), (4, .int (nI (dfO g0 a a))), (3, .int (nI 2147483647)), (0, .ref (ad 70)), (1, .int (nI a)), (2, .int (nI b))] → W p l e rm_Lr s m args below meth c H locs 28 168 Q (F0 m 577 ls []) := by
  intro g z H locs ls hs hP hD hS hl
  refine lv_aload_n C.hx C.hb dL_refuses_577 rfl (lv_at hl 13 rfl) ?_
  refine lv_iload C.hx C.hb dL_refuses_578 (lv_at hl 3 rfl) ?_
  refine lv_iconst (v := nI 0) C.hx C.hb dL_refuses_580 (by decide +kernel) ?_
  refine lv_iload C.hx C.hb dL_refuses_581 (lv_at hl 7 rfl) ?_
  refine lv_bipush (v := nI 99) C.hx C.hb dL_refuses_583 (by decide +kernel) ?_
  refine lv_iconst (v := nI 0) C.hx C.hb dL_refuses_585 (by decide +kernel) ?_
  refine q_cR (w := 9) (p0 := nI 0) (p1 := -1) (p2 := nI 99) (p3 := nI 0) (r := -7000001) (c2 := 29) (s2 := 174) C hs hP hD hS (rj_block C.htr (notr (by decide +kernel) (by omega))) hl rfl (Nat.le_of_ble_eq_true rfl) ⟨Nat.le_of_ble_eq_true rfl, Nat.le_of_ble_eq_true rfl⟩ ⟨Nat.le_of_ble_eq_true rfl, Nat.le_of_ble_eq_true rfl⟩ ⟨Nat.le_of_ble_eq_true rfl, Nat.le_of_ble_eq_true rfl⟩ dL_refuses_586 (fun g z H locs hs hP hD hS => ?_)
  refine lv_ldc (v := -7000001) C.hx C.hb C.hown (C.hT.use kk_L_90 args) dL_refuses_589 ?_
  refine lv_icmp_ne (tgt := 634) C.hx C.hb dL_refuses_591 (by decide) (fun c9 => absurd c9 (by decide +kernel)) (fun _ => ?_)
  refine lv_aload_n C.hx C.hb dL_refuses_594 rfl (lv_at hl 13 rfl) ?_
  refine lv_iload C.hx C.hb dL_refuses_595 (lv_at hl 3 rfl) ?_
  refine lv_iload C.hx C.hb dL_refuses_597 (lv_at hl 7 rfl) ?_
  refine lv_iload C.hx C.hb dL_refuses_599 (lv_at hl 7 rfl) ?_
  refine lv_iconst (v := nI 0) C.hx C.hb dL_refuses_601 (by decide +kernel) ?_
  refine lv_iconst (v := nI 0) C.hx C.hb dL_refuses_602 (by decide +kernel) ?_
  refine q_cR (w := 9) (p0 := -1) (p1 := -1) (p2 := nI 0) (p3 := nI 0) (r := -7000001) (c2 := 30) (s2 := 180) C hs hP hD hS (ri_block C.htr (notr (by decide +kernel) (by omega))) hl rfl (Nat.le_of_ble_eq_true rfl) ⟨Nat.le_of_ble_eq_true rfl, Nat.le_of_ble_eq_true rfl⟩ ⟨Nat.le_of_ble_eq_true rfl, Nat.le_of_ble_eq_true rfl⟩ ⟨Nat.le_of_ble_eq_true rfl, Nat.le_of_ble_eq_true rfl⟩ dL_refuses_603 (fun g z H locs hs hP hD hS => ?_)
  refine lv_ldc (v := -7000001) C.hx C.hb C.hown (C.hT.use kk_L_90 args) dL_refuses_606 ?_
  refine lv_icmp_ne (tgt := 634) C.hx C.hb dL_refuses_608 (by decide) (fun c9 => absurd c9 (by decide +kernel)) (fun _ => ?_)
  refine lv_iload_n C.hx C.hb dL_refuses_611 rfl (lv_at hl 14 rfl) ?_
  refine lv_if_eq (tgt := 630) C.hx C.hb dL_refuses_612 (by decide) (fun c9 => ?_) (fun c9 => ?_)
  · refine W.widen (k := 31) (n := 186) (Nat.le_of_ble_eq_true rfl) (Nat.le_of_ble_eq_true rfl) ?_
    exact kk g z H locs ls hs hP hD hS hl
  · have ha0 : 0 < a := Nat.pos_of_ne_zero (fun q => c9 (by rw [q]; rfl))
    have hb0 : 0 < b := hab ha0
    refine lv_aload_n C.hx C.hb dL_refuses_615 rfl (lv_at hl 13 rfl) ?_
    refine lv_iload C.hx C.hb dL_refuses_616 (lv_at hl 3 rfl) ?_
    refine lv_iconst (v := nI 0) C.hx C.hb dL_refuses_618 (by decide +kernel) ?_
    refine lv_iconst (v := nI 0) C.hx C.hb dL_refuses_619 (by decide +kernel) ?_
    refine lv_iconst (v := nI 0) C.hx C.hb dL_refuses_620 (by decide +kernel) ?_
    refine lv_iconst (v := nI 0) C.hx C.hb dL_refuses_621 (by decide +kernel) ?_
    refine q_cR (w := 9) (p0 := nI 0) (p1 := nI 0) (p2 := nI 0) (p3 := nI 0) (r := -7000002) (c2 := 31) (s2 := 186) C hs hP hD hS (rs_block C.htr (q_r_nI (by omega))) hl rfl (Nat.le_of_ble_eq_true rfl) ⟨Nat.le_of_ble_eq_true rfl, Nat.le_of_ble_eq_true rfl⟩ ⟨Nat.le_of_ble_eq_true rfl, Nat.le_of_ble_eq_true rfl⟩ ⟨Nat.le_of_ble_eq_true rfl, Nat.le_of_ble_eq_true rfl⟩ dL_refuses_622 (fun g z H locs hs hP hD hS => ?_)
    refine lv_ldc (v := -7000002) C.hx C.hb C.hown (C.hT.use kk_L_93 args) dL_refuses_625 ?_
    refine lv_icmp_ne (tgt := 634) C.hx C.hb dL_refuses_627 (by decide) (fun c9 => absurd c9 (by decide +kernel)) (fun _ => ?_)
    exact kk g z H locs ls hs hP hD hS hl

set_option maxRecDepth 100000 in
set_option maxHeartbeats 4000000 in
theorem tf_12 {p : Program} {l : Launch} {e : Env} {s : State} {m : MethodId} {args : Array Value} {below : List Frame} {meth : Method} {c : Code} {D : va_G} {cA : ClassId} {A : Nat → Prop} {ad : Nat → Nat} {Q : State → Prop} {g0 : Nat → Nat → Int32} {a t b : Nat} (ha : a ≤ 16) (hb9 : b ≤ 40) (hab : 0 < a → 0 < b) (C : lcx p l s m c cL_refuses 16 D cA A) (kk : ∀ (g : Nat → Nat → Int32) (z : Nat → Nat) (H : Heap) (locs : List Loc) (ls : Array Slot), SR g0 a t b g z → va_P D vwCl (rlW cA ad g z) H → va_D A (rlW cA ad g z) → va_S A s.heap H locs → lv_has ls 16 [(12, .int (nI 1)), (15, .int (nI 1)), (14, .int (nI 1)), (13, .int (nI 10)), (11, .int (-1)), (10, .int (-1)), (9, .int (-1)), (8, .int (-1)), (7, .int (-2)), (6, .int (-1)), (5, .int (nI 0)), (4, .int (nI (dfO g0 a a))), (3, .int (nI 2147483647)), (0, .ref (ad 70)), (1, .int (nI a)), (2, .int (nI b))] → W p l e rm_Lr s m args below meth c H locs 32 192 Q (F0 m 577 ls [])) : ∀ (g : Nat → Nat → Int32) (z : Nat → Nat) (H : Heap) (locs : List Loc) (ls : Array Slot), SR g0 a t b g z → va_P D vwCl (rlW cA ad g z) H → va_D A (rlW cA ad g z) → va_S A s.heap H locs → lv_has ls 16 [(12, .int (nI 1)), (15, .int (nI 1)), (14, .int (nI 1)), (13, .int (nI 9)), (11, .int (-1)), (10, .int (-1)), (9, .int (-1)), (8, .int (-1)), (7, .int (-2)), (6, .int (-1)), (5, .int (nI 0)), (4, .int (nI (dfO g0 a a))), (3, .int (nI 2147483647)), (0, .ref (ad 70)), (1, .int (nI a)), (2, .int (nI b))] → W p l e rm_Lr s m args below meth c H locs 31 186 Q (F0 m 630 ls []) := by
  intro g z H locs ls hs hP hD hS hl
  refine lv_iconst (v := nI 1) C.hx C.hb dL_refuses_630 (by decide +kernel) ?_
  refine lv_goto (tgt := 635) C.hx C.hb dL_refuses_631 (by decide) ?_
  refine lv_istore (lv' := [(12, .int (nI 1)), (15, .int (nI 1)), (14, .int (nI 1)), (13, .int (nI 9)), (11, .int (-1)), (10, .int (-1)), (9, .int (-1)), (8, .int (-1)), (7, .int (-2)), (6, .int (-1)), (5, .int (nI 0)), (4, .int (nI (dfO g0 a a))), (3, .int (nI 2147483647)), (0, .ref (ad 70)), (1, .int (nI a)), (2, .int (nI b))]) C.hx C.hb dL_refuses_635 hl (by decide) rfl (fun ls hl => ?_)
  refine lv_iload C.hx C.hb dL_refuses_637 (lv_at hl 3 rfl) ?_
  refine lv_bipush (v := nI 15) C.hx C.hb dL_refuses_639 (by decide +kernel) ?_
  refine lv_icmp_eq (tgt := 658) C.hx C.hb dL_refuses_641 (by decide) (fun c9 => absurd c9 (by decide +kernel)) (fun _ => ?_)
  refine lv_iload C.hx C.hb dL_refuses_644 (lv_at hl 3 rfl) ?_
  refine lv_bipush (v := nI 16) C.hx C.hb dL_refuses_646 (by decide +kernel) ?_
  refine lv_icmp_eq (tgt := 658) C.hx C.hb dL_refuses_648 (by decide) (fun c9 => absurd c9 (by decide +kernel)) (fun _ => ?_)
  refine lv_iload C.hx C.hb dL_refuses_651 (lv_at hl 3 rfl) ?_
  refine lv_bipush (v := nI 18) C.hx C.hb dL_refuses_653 (by decide +kernel) ?_
  refine lv_icmp_ne (tgt := 681) C.hx C.hb dL_refuses_655 (by decide) (fun _ => ?_) (fun c9 => absurd c9 (by decide +kernel))
  refine lv_iinc (v := nI 10) (lv' := [(13, .int (nI 10)), (12, .int (nI 1)), (15, .int (nI 1)), (14, .int (nI 1)), (11, .int (-1)), (10, .int (-1)), (9, .int (-1)), (8, .int (-1)), (7, .int (-2)), (6, .int (-1)), (5, .int (nI 0)), (4, .int (nI (dfO g0 a a))), (3, .int (nI 2147483647)), (0, .ref (ad 70)), (1, .int (nI a)), (2, .int (nI b))]) C.hx C.hb dL_refuses_681 hl (k := 3) rfl (by decide +kernel) (by decide) rfl (fun ls hl => ?_)
  refine lv_goto (tgt := 459) C.hx C.hb dL_refuses_684 (by decide) ?_
  refine lv_iload C.hx C.hb dL_refuses_459 (lv_at hl 0 rfl) ?_
  refine lv_bipush (v := nI 20) C.hx C.hb dL_refuses_461 (by decide +kernel) ?_
  refine lv_icmp_ge (tgt := 687) C.hx C.hb dL_refuses_463 (by decide) (fun c9 => absurd c9 (by decide +kernel)) (fun _ => ?_)
  refine lv_iload C.hx C.hb dL_refuses_466 (lv_at hl 1 rfl) ?_
  refine lv_if_eq (tgt := 687) C.hx C.hb dL_refuses_468 (by decide) (fun c9 => absurd c9 (by decide +kernel)) (fun _ => ?_)
  refine lv_iload C.hx C.hb dL_refuses_471 (lv_at hl 0 rfl) ?_
  refine lv_iconst (v := nI 4) C.hx C.hb dL_refuses_473 (by decide +kernel) ?_
  refine lv_icmp_lt (tgt := 497) C.hx C.hb dL_refuses_474 (by decide) (fun c9 => absurd c9 (by decide +kernel)) (fun _ => ?_)
  refine lv_iload C.hx C.hb dL_refuses_477 (lv_at hl 0 rfl) ?_
  refine lv_iconst (v := nI 5) C.hx C.hb dL_refuses_479 (by decide +kernel) ?_
  refine lv_icmp_le (tgt := 490) C.hx C.hb dL_refuses_480 (by decide) (fun c9 => absurd c9 (by decide +kernel)) (fun _ => ?_)
  refine lv_iload C.hx C.hb dL_refuses_483 (lv_at hl 0 rfl) ?_
  refine lv_bipush (v := nI 15) C.hx C.hb dL_refuses_485 (by decide +kernel) ?_
  refine lv_icmp_lt (tgt := 497) C.hx C.hb dL_refuses_487 (by decide) (fun _ => ?_) (fun c9 => absurd c9 (by decide +kernel))
  refine lv_iconst (v := nI 1) C.hx C.hb dL_refuses_497 (by decide +kernel) ?_
  refine lv_goto (tgt := 502) C.hx C.hb dL_refuses_498 (by decide) ?_
  refine lv_istore (lv' := [(14, .int (nI 1)), (13, .int (nI 10)), (12, .int (nI 1)), (15, .int (nI 1)), (11, .int (-1)), (10, .int (-1)), (9, .int (-1)), (8, .int (-1)), (7, .int (-2)), (6, .int (-1)), (5, .int (nI 0)), (4, .int (nI (dfO g0 a a))), (3, .int (nI 2147483647)), (0, .ref (ad 70)), (1, .int (nI a)), (2, .int (nI b))]) C.hx C.hb dL_refuses_502 hl (by decide) rfl (fun ls hl => ?_)
  refine lv_iload C.hx C.hb dL_refuses_504 (lv_at hl 1 rfl) ?_
  refine lv_iconst (v := nI 3) C.hx C.hb dL_refuses_506 (by decide +kernel) ?_
  refine lv_icmp_eq (tgt := 531) C.hx C.hb dL_refuses_507 (by decide) (fun c9 => absurd c9 (by decide +kernel)) (fun _ => ?_)
  refine lv_iload C.hx C.hb dL_refuses_510 (lv_at hl 1 rfl) ?_
  refine lv_bipush (v := nI 7) C.hx C.hb dL_refuses_512 (by decide +kernel) ?_
  refine lv_icmp_le (tgt := 524) C.hx C.hb dL_refuses_514 (by decide) (fun c9 => absurd c9 (by decide +kernel)) (fun _ => ?_)
  refine lv_iload C.hx C.hb dL_refuses_517 (lv_at hl 1 rfl) ?_
  refine lv_bipush (v := nI 13) C.hx C.hb dL_refuses_519 (by decide +kernel) ?_
  refine lv_icmp_lt (tgt := 531) C.hx C.hb dL_refuses_521 (by decide) (fun _ => ?_) (fun c9 => absurd c9 (by decide +kernel))
  refine lv_iconst (v := nI 1) C.hx C.hb dL_refuses_531 (by decide +kernel) ?_
  refine lv_goto (tgt := 536) C.hx C.hb dL_refuses_532 (by decide) ?_
  refine lv_istore (lv' := [(15, .int (nI 1)), (14, .int (nI 1)), (13, .int (nI 10)), (12, .int (nI 1)), (11, .int (-1)), (10, .int (-1)), (9, .int (-1)), (8, .int (-1)), (7, .int (-2)), (6, .int (-1)), (5, .int (nI 0)), (4, .int (nI (dfO g0 a a))), (3, .int (nI 2147483647)), (0, .ref (ad 70)), (1, .int (nI a)), (2, .int (nI b))]) C.hx C.hb dL_refuses_536 hl (by decide) rfl (fun ls hl => ?_)
  refine lv_iload C.hx C.hb dL_refuses_538 (lv_at hl 1 rfl) ?_
  refine lv_if_eq (tgt := 567) C.hx C.hb dL_refuses_540 (by decide) (fun c9 => absurd c9 (by decide +kernel)) (fun _ => ?_)
  refine lv_aload_n C.hx C.hb dL_refuses_543 rfl (lv_at hl 13 rfl) ?_
  refine lv_iload C.hx C.hb dL_refuses_544 (lv_at hl 2 rfl) ?_
  refine lv_iload C.hx C.hb dL_refuses_546 (lv_at hl 7 rfl) ?_
  refine lv_iconst (v := nI 0) C.hx C.hb dL_refuses_548 (by decide +kernel) ?_
  refine lv_bipush (v := nI 99) C.hx C.hb dL_refuses_549 (by decide +kernel) ?_
  refine lv_iconst (v := nI 0) C.hx C.hb dL_refuses_551 (by decide +kernel) ?_
  refine q_cR (w := 10) (p0 := -1) (p1 := nI 0) (p2 := nI 99) (p3 := nI 0) (r := -7000001) (c2 := 32) (s2 := 192) C hs hP hD hS (ri_weight C.htr (notr (by decide +kernel) (by omega))) hl rfl (Nat.le_of_ble_eq_true rfl) ⟨Nat.le_of_ble_eq_true rfl, Nat.le_of_ble_eq_true rfl⟩ ⟨Nat.le_of_ble_eq_true rfl, Nat.le_of_ble_eq_true rfl⟩ ⟨Nat.le_of_ble_eq_true rfl, Nat.le_of_ble_eq_true rfl⟩ dL_refuses_552 (fun g z H locs hs hP hD hS => ?_)
  refine lv_ldc (v := -7000001) C.hx C.hb C.hown (C.hT.use kk_L_90 args) dL_refuses_555 ?_
  refine lv_icmp_ne (tgt := 564) C.hx C.hb dL_refuses_557 (by decide) (fun c9 => absurd c9 (by decide +kernel)) (fun _ => ?_)
  refine lv_iconst (v := nI 1) C.hx C.hb dL_refuses_560 (by decide +kernel) ?_
  refine lv_goto (tgt := 565) C.hx C.hb dL_refuses_561 (by decide) ?_
  refine lv_istore (lv' := [(12, .int (nI 1)), (15, .int (nI 1)), (14, .int (nI 1)), (13, .int (nI 10)), (11, .int (-1)), (10, .int (-1)), (9, .int (-1)), (8, .int (-1)), (7, .int (-2)), (6, .int (-1)), (5, .int (nI 0)), (4, .int (nI (dfO g0 a a))), (3, .int (nI 2147483647)), (0, .ref (ad 70)), (1, .int (nI a)), (2, .int (nI b))]) C.hx C.hb dL_refuses_565 hl (by decide) rfl (fun ls hl => ?_)
  refine lv_iload C.hx C.hb dL_refuses_567 (lv_at hl 1 rfl) ?_
  refine lv_if_eq (tgt := 637) C.hx C.hb dL_refuses_569 (by decide) (fun c9 => absurd c9 (by decide +kernel)) (fun _ => ?_)
  refine lv_iload C.hx C.hb dL_refuses_572 (lv_at hl 0 rfl) ?_
  refine lv_if_eq (tgt := 634) C.hx C.hb dL_refuses_574 (by decide) (fun c9 => absurd c9 (by decide +kernel)) (fun _ => ?_)
  exact kk g z H locs ls hs hP hD hS hl

set_option maxRecDepth 100000 in
set_option maxHeartbeats 4000000 in
theorem tf_13 {p : Program} {l : Launch} {e : Env} {s : State} {m : MethodId} {args : Array Value} {below : List Frame} {meth : Method} {c : Code} {D : va_G} {cA : ClassId} {A : Nat → Prop} {ad : Nat → Nat} {Q : State → Prop} {g0 : Nat → Nat → Int32} {a t b : Nat} (ha : a ≤ 16) (hb9 : b ≤ 40) (hab : 0 < a → 0 < b) (C : lcx p l s m c cL_refuses 16 D cA A) (kk : ∀ (g : Nat → Nat → Int32) (z : Nat → Nat) (H : Heap) (locs : List Loc) (ls : Array Slot), SR g0 a t b g z → va_P D vwCl (rlW cA ad g z) H → va_D A (rlW cA ad g z) → va_S A s.heap H locs → lv_has ls 16 [(12, .int (nI 1)), (15, .int (nI 1)), (14, .int (nI 1)), (13, .int (nI 10)), (11, .int (-1)), (10, .int (-1)), (9, .int (-1)), (8, .int (-1)), (7, .int (-2)), (6, .int (-1)), (5, .int (nI 0)), (4, .int (nI (dfO g0 a a))), (3, .int (nI 2147483647)), (0, .ref (ad 70)), (1, .int (nI a)), (2, .int (nI b))] → W p l e rm_Lr s m args below meth c H locs 35 210 Q (F0 m 630 ls [])) : ∀ (g : Nat → Nat → Int32) (z : Nat → Nat) (H : Heap) (locs : List Loc) (ls : Array Slot), SR g0 a t b g z → va_P D vwCl (rlW cA ad g z) H → va_D A (rlW cA ad g z) → va_S A s.heap H locs → lv_has ls 16 [(12, .int (nI 1)), (15, .int (nI 1)), (14, .int (nI 1)), (13, .int (nI 10)), (11, .int (-1)), (10, .int (-1)), (9, .int (-1)), (8, .int (-1)), (7, .int (-2)), (6, .int (-1)), (5, .int (nI 0)), (4, .int (nI (dfO g0 a a))), (3, .int (nI 2147483647)), (0, .ref (ad 70)), (1, .int (nI a)), (2, .int (nI b))] → W p l e rm_Lr s m args below meth c H locs 32 192 Q (F0 m 577 ls []) := by
  intro g z H locs ls hs hP hD hS hl
  refine lv_aload_n C.hx C.hb dL_refuses_577 rfl (lv_at hl 13 rfl) ?_
  refine lv_iload C.hx C.hb dL_refuses_578 (lv_at hl 3 rfl) ?_
  refine lv_iconst (v := nI 0) C.hx C.hb dL_refuses_580 (by decide +kernel) ?_
  refine lv_iload C.hx C.hb dL_refuses_581 (lv_at hl 7 rfl) ?_
  refine lv_bipush (v := nI 99) C.hx C.hb dL_refuses_583 (by decide +kernel) ?_
  refine lv_iconst (v := nI 0) C.hx C.hb dL_refuses_585 (by decide +kernel) ?_
  refine q_cR (w := 10) (p0 := nI 0) (p1 := -1) (p2 := nI 99) (p3 := nI 0) (r := -7000001) (c2 := 33) (s2 := 198) C hs hP hD hS (rj_weight C.htr (notr (by decide +kernel) (by omega))) hl rfl (Nat.le_of_ble_eq_true rfl) ⟨Nat.le_of_ble_eq_true rfl, Nat.le_of_ble_eq_true rfl⟩ ⟨Nat.le_of_ble_eq_true rfl, Nat.le_of_ble_eq_true rfl⟩ ⟨Nat.le_of_ble_eq_true rfl, Nat.le_of_ble_eq_true rfl⟩ dL_refuses_586 (fun g z H locs hs hP hD hS => ?_)
  refine lv_ldc (v := -7000001) C.hx C.hb C.hown (C.hT.use kk_L_90 args) dL_refuses_589 ?_
  refine lv_icmp_ne (tgt := 634) C.hx C.hb dL_refuses_591 (by decide) (fun c9 => absurd c9 (by decide +kernel)) (fun _ => ?_)
  refine lv_aload_n C.hx C.hb dL_refuses_594 rfl (lv_at hl 13 rfl) ?_
  refine lv_iload C.hx C.hb dL_refuses_595 (lv_at hl 3 rfl) ?_
  refine lv_iload C.hx C.hb dL_refuses_597 (lv_at hl 7 rfl) ?_
  refine lv_iload C.hx C.hb dL_refuses_599 (lv_at hl 7 rfl) ?_
  refine lv_iconst (v := nI 0) C.hx C.hb dL_refuses_601 (by decide +kernel) ?_
  refine lv_iconst (v := nI 0) C.hx C.hb dL_refuses_602 (by decide +kernel) ?_
  refine q_cR (w := 10) (p0 := -1) (p1 := -1) (p2 := nI 0) (p3 := nI 0) (r := -7000001) (c2 := 34) (s2 := 204) C hs hP hD hS (ri_weight C.htr (notr (by decide +kernel) (by omega))) hl rfl (Nat.le_of_ble_eq_true rfl) ⟨Nat.le_of_ble_eq_true rfl, Nat.le_of_ble_eq_true rfl⟩ ⟨Nat.le_of_ble_eq_true rfl, Nat.le_of_ble_eq_true rfl⟩ ⟨Nat.le_of_ble_eq_true rfl, Nat.le_of_ble_eq_true rfl⟩ dL_refuses_603 (fun g z H locs hs hP hD hS => ?_)
  refine lv_ldc (v := -7000001) C.hx C.hb C.hown (C.hT.use kk_L_90 args) dL_refuses_606 ?_
  refine lv_icmp_ne (tgt := 634) C.hx C.hb dL_refuses_608 (by decide) (fun c9 => absurd c9 (by decide +kernel)) (fun _ => ?_)
  refine lv_iload_n C.hx C.hb dL_refuses_611 rfl (lv_at hl 14 rfl) ?_
  refine lv_if_eq (tgt := 630) C.hx C.hb dL_refuses_612 (by decide) (fun c9 => ?_) (fun c9 => ?_)
  · refine W.widen (k := 35) (n := 210) (Nat.le_of_ble_eq_true rfl) (Nat.le_of_ble_eq_true rfl) ?_
    exact kk g z H locs ls hs hP hD hS hl
  · have ha0 : 0 < a := Nat.pos_of_ne_zero (fun q => c9 (by rw [q]; rfl))
    have hb0 : 0 < b := hab ha0
    refine lv_aload_n C.hx C.hb dL_refuses_615 rfl (lv_at hl 13 rfl) ?_
    refine lv_iload C.hx C.hb dL_refuses_616 (lv_at hl 3 rfl) ?_
    refine lv_iconst (v := nI 0) C.hx C.hb dL_refuses_618 (by decide +kernel) ?_
    refine lv_iconst (v := nI 0) C.hx C.hb dL_refuses_619 (by decide +kernel) ?_
    refine lv_iconst (v := nI 0) C.hx C.hb dL_refuses_620 (by decide +kernel) ?_
    refine lv_iconst (v := nI 0) C.hx C.hb dL_refuses_621 (by decide +kernel) ?_
    refine q_cR (w := 10) (p0 := nI 0) (p1 := nI 0) (p2 := nI 0) (p3 := nI 0) (r := -7000002) (c2 := 35) (s2 := 210) C hs hP hD hS (rs_weight C.htr (q_r_nI (by omega))) hl rfl (Nat.le_of_ble_eq_true rfl) ⟨Nat.le_of_ble_eq_true rfl, Nat.le_of_ble_eq_true rfl⟩ ⟨Nat.le_of_ble_eq_true rfl, Nat.le_of_ble_eq_true rfl⟩ ⟨Nat.le_of_ble_eq_true rfl, Nat.le_of_ble_eq_true rfl⟩ dL_refuses_622 (fun g z H locs hs hP hD hS => ?_)
    refine lv_ldc (v := -7000002) C.hx C.hb C.hown (C.hT.use kk_L_93 args) dL_refuses_625 ?_
    refine lv_icmp_ne (tgt := 634) C.hx C.hb dL_refuses_627 (by decide) (fun c9 => absurd c9 (by decide +kernel)) (fun _ => ?_)
    exact kk g z H locs ls hs hP hD hS hl

set_option maxRecDepth 100000 in
set_option maxHeartbeats 4000000 in
theorem tf_14 {p : Program} {l : Launch} {e : Env} {s : State} {m : MethodId} {args : Array Value} {below : List Frame} {meth : Method} {c : Code} {D : va_G} {cA : ClassId} {A : Nat → Prop} {ad : Nat → Nat} {Q : State → Prop} {g0 : Nat → Nat → Int32} {a t b : Nat} (ha : a ≤ 16) (hb9 : b ≤ 40) (hab : 0 < a → 0 < b) (C : lcx p l s m c cL_refuses 16 D cA A) (kk : ∀ (g : Nat → Nat → Int32) (z : Nat → Nat) (H : Heap) (locs : List Loc) (ls : Array Slot), SR g0 a t b g z → va_P D vwCl (rlW cA ad g z) H → va_D A (rlW cA ad g z) → va_S A s.heap H locs → lv_has ls 16 [(12, .int (nI 1)), (15, .int (nI 1)), (14, .int (nI 1)), (13, .int (nI 11)), (11, .int (-1)), (10, .int (-1)), (9, .int (-1)), (8, .int (-1)), (7, .int (-2)), (6, .int (-1)), (5, .int (nI 0)), (4, .int (nI (dfO g0 a a))), (3, .int (nI 2147483647)), (0, .ref (ad 70)), (1, .int (nI a)), (2, .int (nI b))] → W p l e rm_Lr s m args below meth c H locs 36 216 Q (F0 m 577 ls [])) : ∀ (g : Nat → Nat → Int32) (z : Nat → Nat) (H : Heap) (locs : List Loc) (ls : Array Slot), SR g0 a t b g z → va_P D vwCl (rlW cA ad g z) H → va_D A (rlW cA ad g z) → va_S A s.heap H locs → lv_has ls 16 [(12, .int (nI 1)), (15, .int (nI 1)), (14, .int (nI 1)), (13, .int (nI 10)), (11, .int (-1)), (10, .int (-1)), (9, .int (-1)), (8, .int (-1)), (7, .int (-2)), (6, .int (-1)), (5, .int (nI 0)), (4, .int (nI (dfO g0 a a))), (3, .int (nI 2147483647)), (0, .ref (ad 70)), (1, .int (nI a)), (2, .int (nI b))] → W p l e rm_Lr s m args below meth c H locs 35 210 Q (F0 m 630 ls []) := by
  intro g z H locs ls hs hP hD hS hl
  refine lv_iconst (v := nI 1) C.hx C.hb dL_refuses_630 (by decide +kernel) ?_
  refine lv_goto (tgt := 635) C.hx C.hb dL_refuses_631 (by decide) ?_
  refine lv_istore (lv' := [(12, .int (nI 1)), (15, .int (nI 1)), (14, .int (nI 1)), (13, .int (nI 10)), (11, .int (-1)), (10, .int (-1)), (9, .int (-1)), (8, .int (-1)), (7, .int (-2)), (6, .int (-1)), (5, .int (nI 0)), (4, .int (nI (dfO g0 a a))), (3, .int (nI 2147483647)), (0, .ref (ad 70)), (1, .int (nI a)), (2, .int (nI b))]) C.hx C.hb dL_refuses_635 hl (by decide) rfl (fun ls hl => ?_)
  refine lv_iload C.hx C.hb dL_refuses_637 (lv_at hl 3 rfl) ?_
  refine lv_bipush (v := nI 15) C.hx C.hb dL_refuses_639 (by decide +kernel) ?_
  refine lv_icmp_eq (tgt := 658) C.hx C.hb dL_refuses_641 (by decide) (fun c9 => absurd c9 (by decide +kernel)) (fun _ => ?_)
  refine lv_iload C.hx C.hb dL_refuses_644 (lv_at hl 3 rfl) ?_
  refine lv_bipush (v := nI 16) C.hx C.hb dL_refuses_646 (by decide +kernel) ?_
  refine lv_icmp_eq (tgt := 658) C.hx C.hb dL_refuses_648 (by decide) (fun c9 => absurd c9 (by decide +kernel)) (fun _ => ?_)
  refine lv_iload C.hx C.hb dL_refuses_651 (lv_at hl 3 rfl) ?_
  refine lv_bipush (v := nI 18) C.hx C.hb dL_refuses_653 (by decide +kernel) ?_
  refine lv_icmp_ne (tgt := 681) C.hx C.hb dL_refuses_655 (by decide) (fun _ => ?_) (fun c9 => absurd c9 (by decide +kernel))
  refine lv_iinc (v := nI 11) (lv' := [(13, .int (nI 11)), (12, .int (nI 1)), (15, .int (nI 1)), (14, .int (nI 1)), (11, .int (-1)), (10, .int (-1)), (9, .int (-1)), (8, .int (-1)), (7, .int (-2)), (6, .int (-1)), (5, .int (nI 0)), (4, .int (nI (dfO g0 a a))), (3, .int (nI 2147483647)), (0, .ref (ad 70)), (1, .int (nI a)), (2, .int (nI b))]) C.hx C.hb dL_refuses_681 hl (k := 3) rfl (by decide +kernel) (by decide) rfl (fun ls hl => ?_)
  refine lv_goto (tgt := 459) C.hx C.hb dL_refuses_684 (by decide) ?_
  refine lv_iload C.hx C.hb dL_refuses_459 (lv_at hl 0 rfl) ?_
  refine lv_bipush (v := nI 20) C.hx C.hb dL_refuses_461 (by decide +kernel) ?_
  refine lv_icmp_ge (tgt := 687) C.hx C.hb dL_refuses_463 (by decide) (fun c9 => absurd c9 (by decide +kernel)) (fun _ => ?_)
  refine lv_iload C.hx C.hb dL_refuses_466 (lv_at hl 1 rfl) ?_
  refine lv_if_eq (tgt := 687) C.hx C.hb dL_refuses_468 (by decide) (fun c9 => absurd c9 (by decide +kernel)) (fun _ => ?_)
  refine lv_iload C.hx C.hb dL_refuses_471 (lv_at hl 0 rfl) ?_
  refine lv_iconst (v := nI 4) C.hx C.hb dL_refuses_473 (by decide +kernel) ?_
  refine lv_icmp_lt (tgt := 497) C.hx C.hb dL_refuses_474 (by decide) (fun c9 => absurd c9 (by decide +kernel)) (fun _ => ?_)
  refine lv_iload C.hx C.hb dL_refuses_477 (lv_at hl 0 rfl) ?_
  refine lv_iconst (v := nI 5) C.hx C.hb dL_refuses_479 (by decide +kernel) ?_
  refine lv_icmp_le (tgt := 490) C.hx C.hb dL_refuses_480 (by decide) (fun c9 => absurd c9 (by decide +kernel)) (fun _ => ?_)
  refine lv_iload C.hx C.hb dL_refuses_483 (lv_at hl 0 rfl) ?_
  refine lv_bipush (v := nI 15) C.hx C.hb dL_refuses_485 (by decide +kernel) ?_
  refine lv_icmp_lt (tgt := 497) C.hx C.hb dL_refuses_487 (by decide) (fun _ => ?_) (fun c9 => absurd c9 (by decide +kernel))
  refine lv_iconst (v := nI 1) C.hx C.hb dL_refuses_497 (by decide +kernel) ?_
  refine lv_goto (tgt := 502) C.hx C.hb dL_refuses_498 (by decide) ?_
  refine lv_istore (lv' := [(14, .int (nI 1)), (13, .int (nI 11)), (12, .int (nI 1)), (15, .int (nI 1)), (11, .int (-1)), (10, .int (-1)), (9, .int (-1)), (8, .int (-1)), (7, .int (-2)), (6, .int (-1)), (5, .int (nI 0)), (4, .int (nI (dfO g0 a a))), (3, .int (nI 2147483647)), (0, .ref (ad 70)), (1, .int (nI a)), (2, .int (nI b))]) C.hx C.hb dL_refuses_502 hl (by decide) rfl (fun ls hl => ?_)
  refine lv_iload C.hx C.hb dL_refuses_504 (lv_at hl 1 rfl) ?_
  refine lv_iconst (v := nI 3) C.hx C.hb dL_refuses_506 (by decide +kernel) ?_
  refine lv_icmp_eq (tgt := 531) C.hx C.hb dL_refuses_507 (by decide) (fun c9 => absurd c9 (by decide +kernel)) (fun _ => ?_)
  refine lv_iload C.hx C.hb dL_refuses_510 (lv_at hl 1 rfl) ?_
  refine lv_bipush (v := nI 7) C.hx C.hb dL_refuses_512 (by decide +kernel) ?_
  refine lv_icmp_le (tgt := 524) C.hx C.hb dL_refuses_514 (by decide) (fun c9 => absurd c9 (by decide +kernel)) (fun _ => ?_)
  refine lv_iload C.hx C.hb dL_refuses_517 (lv_at hl 1 rfl) ?_
  refine lv_bipush (v := nI 13) C.hx C.hb dL_refuses_519 (by decide +kernel) ?_
  refine lv_icmp_lt (tgt := 531) C.hx C.hb dL_refuses_521 (by decide) (fun _ => ?_) (fun c9 => absurd c9 (by decide +kernel))
  refine lv_iconst (v := nI 1) C.hx C.hb dL_refuses_531 (by decide +kernel) ?_
  refine lv_goto (tgt := 536) C.hx C.hb dL_refuses_532 (by decide) ?_
  refine lv_istore (lv' := [(15, .int (nI 1)), (14, .int (nI 1)), (13, .int (nI 11)), (12, .int (nI 1)), (11, .int (-1)), (10, .int (-1)), (9, .int (-1)), (8, .int (-1)), (7, .int (-2)), (6, .int (-1)), (5, .int (nI 0)), (4, .int (nI (dfO g0 a a))), (3, .int (nI 2147483647)), (0, .ref (ad 70)), (1, .int (nI a)), (2, .int (nI b))]) C.hx C.hb dL_refuses_536 hl (by decide) rfl (fun ls hl => ?_)
  refine lv_iload C.hx C.hb dL_refuses_538 (lv_at hl 1 rfl) ?_
  refine lv_if_eq (tgt := 567) C.hx C.hb dL_refuses_540 (by decide) (fun c9 => absurd c9 (by decide +kernel)) (fun _ => ?_)
  refine lv_aload_n C.hx C.hb dL_refuses_543 rfl (lv_at hl 13 rfl) ?_
  refine lv_iload C.hx C.hb dL_refuses_544 (lv_at hl 2 rfl) ?_
  refine lv_iload C.hx C.hb dL_refuses_546 (lv_at hl 7 rfl) ?_
  refine lv_iconst (v := nI 0) C.hx C.hb dL_refuses_548 (by decide +kernel) ?_
  refine lv_bipush (v := nI 99) C.hx C.hb dL_refuses_549 (by decide +kernel) ?_
  refine lv_iconst (v := nI 0) C.hx C.hb dL_refuses_551 (by decide +kernel) ?_
  refine q_cR (w := 11) (p0 := -1) (p1 := nI 0) (p2 := nI 99) (p3 := nI 0) (r := -7000001) (c2 := 36) (s2 := 216) C hs hP hD hS (ri_whyNot C.htr (notr (by decide +kernel) (by omega))) hl rfl (Nat.le_of_ble_eq_true rfl) ⟨Nat.le_of_ble_eq_true rfl, Nat.le_of_ble_eq_true rfl⟩ ⟨Nat.le_of_ble_eq_true rfl, Nat.le_of_ble_eq_true rfl⟩ ⟨Nat.le_of_ble_eq_true rfl, Nat.le_of_ble_eq_true rfl⟩ dL_refuses_552 (fun g z H locs hs hP hD hS => ?_)
  refine lv_ldc (v := -7000001) C.hx C.hb C.hown (C.hT.use kk_L_90 args) dL_refuses_555 ?_
  refine lv_icmp_ne (tgt := 564) C.hx C.hb dL_refuses_557 (by decide) (fun c9 => absurd c9 (by decide +kernel)) (fun _ => ?_)
  refine lv_iconst (v := nI 1) C.hx C.hb dL_refuses_560 (by decide +kernel) ?_
  refine lv_goto (tgt := 565) C.hx C.hb dL_refuses_561 (by decide) ?_
  refine lv_istore (lv' := [(12, .int (nI 1)), (15, .int (nI 1)), (14, .int (nI 1)), (13, .int (nI 11)), (11, .int (-1)), (10, .int (-1)), (9, .int (-1)), (8, .int (-1)), (7, .int (-2)), (6, .int (-1)), (5, .int (nI 0)), (4, .int (nI (dfO g0 a a))), (3, .int (nI 2147483647)), (0, .ref (ad 70)), (1, .int (nI a)), (2, .int (nI b))]) C.hx C.hb dL_refuses_565 hl (by decide) rfl (fun ls hl => ?_)
  refine lv_iload C.hx C.hb dL_refuses_567 (lv_at hl 1 rfl) ?_
  refine lv_if_eq (tgt := 637) C.hx C.hb dL_refuses_569 (by decide) (fun c9 => absurd c9 (by decide +kernel)) (fun _ => ?_)
  refine lv_iload C.hx C.hb dL_refuses_572 (lv_at hl 0 rfl) ?_
  refine lv_if_eq (tgt := 634) C.hx C.hb dL_refuses_574 (by decide) (fun c9 => absurd c9 (by decide +kernel)) (fun _ => ?_)
  exact kk g z H locs ls hs hP hD hS hl

set_option maxRecDepth 100000 in
set_option maxHeartbeats 4000000 in
theorem tf_15 {p : Program} {l : Launch} {e : Env} {s : State} {m : MethodId} {args : Array Value} {below : List Frame} {meth : Method} {c : Code} {D : va_G} {cA : ClassId} {A : Nat → Prop} {ad : Nat → Nat} {Q : State → Prop} {g0 : Nat → Nat → Int32} {a t b : Nat} (ha : a ≤ 16) (hb9 : b ≤ 40) (hab : 0 < a → 0 < b) (C : lcx p l s m c cL_refuses 16 D cA A) (kk : ∀ (g : Nat → Nat → Int32) (z : Nat → Nat) (H : Heap) (locs : List Loc) (ls : Array Slot), SR g0 a t b g z → va_P D vwCl (rlW cA ad g z) H → va_D A (rlW cA ad g z) → va_S A s.heap H locs → lv_has ls 16 [(12, .int (nI 1)), (15, .int (nI 1)), (14, .int (nI 1)), (13, .int (nI 11)), (11, .int (-1)), (10, .int (-1)), (9, .int (-1)), (8, .int (-1)), (7, .int (-2)), (6, .int (-1)), (5, .int (nI 0)), (4, .int (nI (dfO g0 a a))), (3, .int (nI 2147483647)), (0, .ref (ad 70)), (1, .int (nI a)), (2, .int (nI b))] → W p l e rm_Lr s m args below meth c H locs 39 234 Q (F0 m 630 ls [])) : ∀ (g : Nat → Nat → Int32) (z : Nat → Nat) (H : Heap) (locs : List Loc) (ls : Array Slot), SR g0 a t b g z → va_P D vwCl (rlW cA ad g z) H → va_D A (rlW cA ad g z) → va_S A s.heap H locs → lv_has ls 16 [(12, .int (nI 1)), (15, .int (nI 1)), (14, .int (nI 1)), (13, .int (nI 11)), (11, .int (-1)), (10, .int (-1)), (9, .int (-1)), (8, .int (-1)), (7, .int (-2)), (6, .int (-1)), (5, .int (nI 0)), (4, .int (nI (dfO g0 a a))), (3, .int (nI 2147483647)), (0, .ref (ad 70)), (1, .int (nI a)), (2, .int (nI b))] → W p l e rm_Lr s m args below meth c H locs 36 216 Q (F0 m 577 ls []) := by
  intro g z H locs ls hs hP hD hS hl
  refine lv_aload_n C.hx C.hb dL_refuses_577 rfl (lv_at hl 13 rfl) ?_
  refine lv_iload C.hx C.hb dL_refuses_578 (lv_at hl 3 rfl) ?_
  refine lv_iconst (v := nI 0) C.hx C.hb dL_refuses_580 (by decide +kernel) ?_
  refine lv_iload C.hx C.hb dL_refuses_581 (lv_at hl 7 rfl) ?_
  refine lv_bipush (v := nI 99) C.hx C.hb dL_refuses_583 (by decide +kernel) ?_
  refine lv_iconst (v := nI 0) C.hx C.hb dL_refuses_585 (by decide +kernel) ?_
  refine q_cR (w := 11) (p0 := nI 0) (p1 := -1) (p2 := nI 99) (p3 := nI 0) (r := -7000001) (c2 := 37) (s2 := 222) C hs hP hD hS (rj_whyNot C.htr (notr (by decide +kernel) (by omega))) hl rfl (Nat.le_of_ble_eq_true rfl) ⟨Nat.le_of_ble_eq_true rfl, Nat.le_of_ble_eq_true rfl⟩ ⟨Nat.le_of_ble_eq_true rfl, Nat.le_of_ble_eq_true rfl⟩ ⟨Nat.le_of_ble_eq_true rfl, Nat.le_of_ble_eq_true rfl⟩ dL_refuses_586 (fun g z H locs hs hP hD hS => ?_)
  refine lv_ldc (v := -7000001) C.hx C.hb C.hown (C.hT.use kk_L_90 args) dL_refuses_589 ?_
  refine lv_icmp_ne (tgt := 634) C.hx C.hb dL_refuses_591 (by decide) (fun c9 => absurd c9 (by decide +kernel)) (fun _ => ?_)
  refine lv_aload_n C.hx C.hb dL_refuses_594 rfl (lv_at hl 13 rfl) ?_
  refine lv_iload C.hx C.hb dL_refuses_595 (lv_at hl 3 rfl) ?_
  refine lv_iload C.hx C.hb dL_refuses_597 (lv_at hl 7 rfl) ?_
  refine lv_iload C.hx C.hb dL_refuses_599 (lv_at hl 7 rfl) ?_
  refine lv_iconst (v := nI 0) C.hx C.hb dL_refuses_601 (by decide +kernel) ?_
  refine lv_iconst (v := nI 0) C.hx C.hb dL_refuses_602 (by decide +kernel) ?_
  refine q_cR (w := 11) (p0 := -1) (p1 := -1) (p2 := nI 0) (p3 := nI 0) (r := -7000001) (c2 := 38) (s2 := 228) C hs hP hD hS (ri_whyNot C.htr (notr (by decide +kernel) (by omega))) hl rfl (Nat.le_of_ble_eq_true rfl) ⟨Nat.le_of_ble_eq_true rfl, Nat.le_of_ble_eq_true rfl⟩ ⟨Nat.le_of_ble_eq_true rfl, Nat.le_of_ble_eq_true rfl⟩ ⟨Nat.le_of_ble_eq_true rfl, Nat.le_of_ble_eq_true rfl⟩ dL_refuses_603 (fun g z H locs hs hP hD hS => ?_)
  refine lv_ldc (v := -7000001) C.hx C.hb C.hown (C.hT.use kk_L_90 args) dL_refuses_606 ?_
  refine lv_icmp_ne (tgt := 634) C.hx C.hb dL_refuses_608 (by decide) (fun c9 => absurd c9 (by decide +kernel)) (fun _ => ?_)
  refine lv_iload_n C.hx C.hb dL_refuses_611 rfl (lv_at hl 14 rfl) ?_
  refine lv_if_eq (tgt := 630) C.hx C.hb dL_refuses_612 (by decide) (fun c9 => ?_) (fun c9 => ?_)
  · refine W.widen (k := 39) (n := 234) (Nat.le_of_ble_eq_true rfl) (Nat.le_of_ble_eq_true rfl) ?_
    exact kk g z H locs ls hs hP hD hS hl
  · have ha0 : 0 < a := Nat.pos_of_ne_zero (fun q => c9 (by rw [q]; rfl))
    have hb0 : 0 < b := hab ha0
    refine lv_aload_n C.hx C.hb dL_refuses_615 rfl (lv_at hl 13 rfl) ?_
    refine lv_iload C.hx C.hb dL_refuses_616 (lv_at hl 3 rfl) ?_
    refine lv_iconst (v := nI 0) C.hx C.hb dL_refuses_618 (by decide +kernel) ?_
    refine lv_iconst (v := nI 0) C.hx C.hb dL_refuses_619 (by decide +kernel) ?_
    refine lv_iconst (v := nI 0) C.hx C.hb dL_refuses_620 (by decide +kernel) ?_
    refine lv_iconst (v := nI 0) C.hx C.hb dL_refuses_621 (by decide +kernel) ?_
    refine q_cR (w := 11) (p0 := nI 0) (p1 := nI 0) (p2 := nI 0) (p3 := nI 0) (r := -7000002) (c2 := 39) (s2 := 234) C hs hP hD hS (rs_whyNot C.htr (q_r_nI (by omega))) hl rfl (Nat.le_of_ble_eq_true rfl) ⟨Nat.le_of_ble_eq_true rfl, Nat.le_of_ble_eq_true rfl⟩ ⟨Nat.le_of_ble_eq_true rfl, Nat.le_of_ble_eq_true rfl⟩ ⟨Nat.le_of_ble_eq_true rfl, Nat.le_of_ble_eq_true rfl⟩ dL_refuses_622 (fun g z H locs hs hP hD hS => ?_)
    refine lv_ldc (v := -7000002) C.hx C.hb C.hown (C.hT.use kk_L_93 args) dL_refuses_625 ?_
    refine lv_icmp_ne (tgt := 634) C.hx C.hb dL_refuses_627 (by decide) (fun c9 => absurd c9 (by decide +kernel)) (fun _ => ?_)
    exact kk g z H locs ls hs hP hD hS hl

set_option maxRecDepth 100000 in
set_option maxHeartbeats 4000000 in
theorem tf_16 {p : Program} {l : Launch} {e : Env} {s : State} {m : MethodId} {args : Array Value} {below : List Frame} {meth : Method} {c : Code} {D : va_G} {cA : ClassId} {A : Nat → Prop} {ad : Nat → Nat} {Q : State → Prop} {g0 : Nat → Nat → Int32} {a t b : Nat} (ha : a ≤ 16) (hb9 : b ≤ 40) (hab : 0 < a → 0 < b) (C : lcx p l s m c cL_refuses 16 D cA A) (kk : ∀ (g : Nat → Nat → Int32) (z : Nat → Nat) (H : Heap) (locs : List Loc) (ls : Array Slot), SR g0 a t b g z → va_P D vwCl (rlW cA ad g z) H → va_D A (rlW cA ad g z) → va_S A s.heap H locs → lv_has ls 16 [(12, .int (nI 1)), (15, .int (nI 1)), (14, .int (nI 1)), (13, .int (nI 12)), (11, .int (-1)), (10, .int (-1)), (9, .int (-1)), (8, .int (-1)), (7, .int (-2)), (6, .int (-1)), (5, .int (nI 0)), (4, .int (nI (dfO g0 a a))), (3, .int (nI 2147483647)), (0, .ref (ad 70)), (1, .int (nI a)), (2, .int (nI b))] → W p l e rm_Lr s m args below meth c H locs 40 240 Q (F0 m 577 ls [])) : ∀ (g : Nat → Nat → Int32) (z : Nat → Nat) (H : Heap) (locs : List Loc) (ls : Array Slot), SR g0 a t b g z → va_P D vwCl (rlW cA ad g z) H → va_D A (rlW cA ad g z) → va_S A s.heap H locs → lv_has ls 16 [(12, .int (nI 1)), (15, .int (nI 1)), (14, .int (nI 1)), (13, .int (nI 11)), (11, .int (-1)), (10, .int (-1)), (9, .int (-1)), (8, .int (-1)), (7, .int (-2)), (6, .int (-1)), (5, .int (nI 0)), (4, .int (nI (dfO g0 a a))), (3, .int (nI 2147483647)), (0, .ref (ad 70)), (1, .int (nI a)), (2, .int (nI b))] → W p l e rm_Lr s m args below meth c H locs 39 234 Q (F0 m 630 ls []) := by
  intro g z H locs ls hs hP hD hS hl
  refine lv_iconst (v := nI 1) C.hx C.hb dL_refuses_630 (by decide +kernel) ?_
  refine lv_goto (tgt := 635) C.hx C.hb dL_refuses_631 (by decide) ?_
  refine lv_istore (lv' := [(12, .int (nI 1)), (15, .int (nI 1)), (14, .int (nI 1)), (13, .int (nI 11)), (11, .int (-1)), (10, .int (-1)), (9, .int (-1)), (8, .int (-1)), (7, .int (-2)), (6, .int (-1)), (5, .int (nI 0)), (4, .int (nI (dfO g0 a a))), (3, .int (nI 2147483647)), (0, .ref (ad 70)), (1, .int (nI a)), (2, .int (nI b))]) C.hx C.hb dL_refuses_635 hl (by decide) rfl (fun ls hl => ?_)
  refine lv_iload C.hx C.hb dL_refuses_637 (lv_at hl 3 rfl) ?_
  refine lv_bipush (v := nI 15) C.hx C.hb dL_refuses_639 (by decide +kernel) ?_
  refine lv_icmp_eq (tgt := 658) C.hx C.hb dL_refuses_641 (by decide) (fun c9 => absurd c9 (by decide +kernel)) (fun _ => ?_)
  refine lv_iload C.hx C.hb dL_refuses_644 (lv_at hl 3 rfl) ?_
  refine lv_bipush (v := nI 16) C.hx C.hb dL_refuses_646 (by decide +kernel) ?_
  refine lv_icmp_eq (tgt := 658) C.hx C.hb dL_refuses_648 (by decide) (fun c9 => absurd c9 (by decide +kernel)) (fun _ => ?_)
  refine lv_iload C.hx C.hb dL_refuses_651 (lv_at hl 3 rfl) ?_
  refine lv_bipush (v := nI 18) C.hx C.hb dL_refuses_653 (by decide +kernel) ?_
  refine lv_icmp_ne (tgt := 681) C.hx C.hb dL_refuses_655 (by decide) (fun _ => ?_) (fun c9 => absurd c9 (by decide +kernel))
  refine lv_iinc (v := nI 12) (lv' := [(13, .int (nI 12)), (12, .int (nI 1)), (15, .int (nI 1)), (14, .int (nI 1)), (11, .int (-1)), (10, .int (-1)), (9, .int (-1)), (8, .int (-1)), (7, .int (-2)), (6, .int (-1)), (5, .int (nI 0)), (4, .int (nI (dfO g0 a a))), (3, .int (nI 2147483647)), (0, .ref (ad 70)), (1, .int (nI a)), (2, .int (nI b))]) C.hx C.hb dL_refuses_681 hl (k := 3) rfl (by decide +kernel) (by decide) rfl (fun ls hl => ?_)
  refine lv_goto (tgt := 459) C.hx C.hb dL_refuses_684 (by decide) ?_
  refine lv_iload C.hx C.hb dL_refuses_459 (lv_at hl 0 rfl) ?_
  refine lv_bipush (v := nI 20) C.hx C.hb dL_refuses_461 (by decide +kernel) ?_
  refine lv_icmp_ge (tgt := 687) C.hx C.hb dL_refuses_463 (by decide) (fun c9 => absurd c9 (by decide +kernel)) (fun _ => ?_)
  refine lv_iload C.hx C.hb dL_refuses_466 (lv_at hl 1 rfl) ?_
  refine lv_if_eq (tgt := 687) C.hx C.hb dL_refuses_468 (by decide) (fun c9 => absurd c9 (by decide +kernel)) (fun _ => ?_)
  refine lv_iload C.hx C.hb dL_refuses_471 (lv_at hl 0 rfl) ?_
  refine lv_iconst (v := nI 4) C.hx C.hb dL_refuses_473 (by decide +kernel) ?_
  refine lv_icmp_lt (tgt := 497) C.hx C.hb dL_refuses_474 (by decide) (fun c9 => absurd c9 (by decide +kernel)) (fun _ => ?_)
  refine lv_iload C.hx C.hb dL_refuses_477 (lv_at hl 0 rfl) ?_
  refine lv_iconst (v := nI 5) C.hx C.hb dL_refuses_479 (by decide +kernel) ?_
  refine lv_icmp_le (tgt := 490) C.hx C.hb dL_refuses_480 (by decide) (fun c9 => absurd c9 (by decide +kernel)) (fun _ => ?_)
  refine lv_iload C.hx C.hb dL_refuses_483 (lv_at hl 0 rfl) ?_
  refine lv_bipush (v := nI 15) C.hx C.hb dL_refuses_485 (by decide +kernel) ?_
  refine lv_icmp_lt (tgt := 497) C.hx C.hb dL_refuses_487 (by decide) (fun _ => ?_) (fun c9 => absurd c9 (by decide +kernel))
  refine lv_iconst (v := nI 1) C.hx C.hb dL_refuses_497 (by decide +kernel) ?_
  refine lv_goto (tgt := 502) C.hx C.hb dL_refuses_498 (by decide) ?_
  refine lv_istore (lv' := [(14, .int (nI 1)), (13, .int (nI 12)), (12, .int (nI 1)), (15, .int (nI 1)), (11, .int (-1)), (10, .int (-1)), (9, .int (-1)), (8, .int (-1)), (7, .int (-2)), (6, .int (-1)), (5, .int (nI 0)), (4, .int (nI (dfO g0 a a))), (3, .int (nI 2147483647)), (0, .ref (ad 70)), (1, .int (nI a)), (2, .int (nI b))]) C.hx C.hb dL_refuses_502 hl (by decide) rfl (fun ls hl => ?_)
  refine lv_iload C.hx C.hb dL_refuses_504 (lv_at hl 1 rfl) ?_
  refine lv_iconst (v := nI 3) C.hx C.hb dL_refuses_506 (by decide +kernel) ?_
  refine lv_icmp_eq (tgt := 531) C.hx C.hb dL_refuses_507 (by decide) (fun c9 => absurd c9 (by decide +kernel)) (fun _ => ?_)
  refine lv_iload C.hx C.hb dL_refuses_510 (lv_at hl 1 rfl) ?_
  refine lv_bipush (v := nI 7) C.hx C.hb dL_refuses_512 (by decide +kernel) ?_
  refine lv_icmp_le (tgt := 524) C.hx C.hb dL_refuses_514 (by decide) (fun c9 => absurd c9 (by decide +kernel)) (fun _ => ?_)
  refine lv_iload C.hx C.hb dL_refuses_517 (lv_at hl 1 rfl) ?_
  refine lv_bipush (v := nI 13) C.hx C.hb dL_refuses_519 (by decide +kernel) ?_
  refine lv_icmp_lt (tgt := 531) C.hx C.hb dL_refuses_521 (by decide) (fun _ => ?_) (fun c9 => absurd c9 (by decide +kernel))
  refine lv_iconst (v := nI 1) C.hx C.hb dL_refuses_531 (by decide +kernel) ?_
  refine lv_goto (tgt := 536) C.hx C.hb dL_refuses_532 (by decide) ?_
  refine lv_istore (lv' := [(15, .int (nI 1)), (14, .int (nI 1)), (13, .int (nI 12)), (12, .int (nI 1)), (11, .int (-1)), (10, .int (-1)), (9, .int (-1)), (8, .int (-1)), (7, .int (-2)), (6, .int (-1)), (5, .int (nI 0)), (4, .int (nI (dfO g0 a a))), (3, .int (nI 2147483647)), (0, .ref (ad 70)), (1, .int (nI a)), (2, .int (nI b))]) C.hx C.hb dL_refuses_536 hl (by decide) rfl (fun ls hl => ?_)
  refine lv_iload C.hx C.hb dL_refuses_538 (lv_at hl 1 rfl) ?_
  refine lv_if_eq (tgt := 567) C.hx C.hb dL_refuses_540 (by decide) (fun c9 => absurd c9 (by decide +kernel)) (fun _ => ?_)
  refine lv_aload_n C.hx C.hb dL_refuses_543 rfl (lv_at hl 13 rfl) ?_
  refine lv_iload C.hx C.hb dL_refuses_544 (lv_at hl 2 rfl) ?_
  refine lv_iload C.hx C.hb dL_refuses_546 (lv_at hl 7 rfl) ?_
  refine lv_iconst (v := nI 0) C.hx C.hb dL_refuses_548 (by decide +kernel) ?_
  refine lv_bipush (v := nI 99) C.hx C.hb dL_refuses_549 (by decide +kernel) ?_
  refine lv_iconst (v := nI 0) C.hx C.hb dL_refuses_551 (by decide +kernel) ?_
  refine q_cR (w := 12) (p0 := -1) (p1 := nI 0) (p2 := nI 99) (p3 := nI 0) (r := -7000001) (c2 := 40) (s2 := 240) C hs hP hD hS (ri_join C.htr (notr (by decide +kernel) (by omega))) hl rfl (Nat.le_of_ble_eq_true rfl) ⟨Nat.le_of_ble_eq_true rfl, Nat.le_of_ble_eq_true rfl⟩ ⟨Nat.le_of_ble_eq_true rfl, Nat.le_of_ble_eq_true rfl⟩ ⟨Nat.le_of_ble_eq_true rfl, Nat.le_of_ble_eq_true rfl⟩ dL_refuses_552 (fun g z H locs hs hP hD hS => ?_)
  refine lv_ldc (v := -7000001) C.hx C.hb C.hown (C.hT.use kk_L_90 args) dL_refuses_555 ?_
  refine lv_icmp_ne (tgt := 564) C.hx C.hb dL_refuses_557 (by decide) (fun c9 => absurd c9 (by decide +kernel)) (fun _ => ?_)
  refine lv_iconst (v := nI 1) C.hx C.hb dL_refuses_560 (by decide +kernel) ?_
  refine lv_goto (tgt := 565) C.hx C.hb dL_refuses_561 (by decide) ?_
  refine lv_istore (lv' := [(12, .int (nI 1)), (15, .int (nI 1)), (14, .int (nI 1)), (13, .int (nI 12)), (11, .int (-1)), (10, .int (-1)), (9, .int (-1)), (8, .int (-1)), (7, .int (-2)), (6, .int (-1)), (5, .int (nI 0)), (4, .int (nI (dfO g0 a a))), (3, .int (nI 2147483647)), (0, .ref (ad 70)), (1, .int (nI a)), (2, .int (nI b))]) C.hx C.hb dL_refuses_565 hl (by decide) rfl (fun ls hl => ?_)
  refine lv_iload C.hx C.hb dL_refuses_567 (lv_at hl 1 rfl) ?_
  refine lv_if_eq (tgt := 637) C.hx C.hb dL_refuses_569 (by decide) (fun c9 => absurd c9 (by decide +kernel)) (fun _ => ?_)
  refine lv_iload C.hx C.hb dL_refuses_572 (lv_at hl 0 rfl) ?_
  refine lv_if_eq (tgt := 634) C.hx C.hb dL_refuses_574 (by decide) (fun c9 => absurd c9 (by decide +kernel)) (fun _ => ?_)
  exact kk g z H locs ls hs hP hD hS hl

set_option maxRecDepth 100000 in
set_option maxHeartbeats 4000000 in
theorem tf_17 {p : Program} {l : Launch} {e : Env} {s : State} {m : MethodId} {args : Array Value} {below : List Frame} {meth : Method} {c : Code} {D : va_G} {cA : ClassId} {A : Nat → Prop} {ad : Nat → Nat} {Q : State → Prop} {g0 : Nat → Nat → Int32} {a t b : Nat} (ha : a ≤ 16) (hb9 : b ≤ 40) (hab : 0 < a → 0 < b) (C : lcx p l s m c cL_refuses 16 D cA A) (kk : ∀ (g : Nat → Nat → Int32) (z : Nat → Nat) (H : Heap) (locs : List Loc) (ls : Array Slot), SR g0 a t b g z → va_P D vwCl (rlW cA ad g z) H → va_D A (rlW cA ad g z) → va_S A s.heap H locs → lv_has ls 16 [(12, .int (nI 1)), (15, .int (nI 1)), (14, .int (nI 1)), (13, .int (nI 12)), (11, .int (-1)), (10, .int (-1)), (9, .int (-1)), (8, .int (-1)), (7, .int (-2)), (6, .int (-1)), (5, .int (nI 0)), (4, .int (nI (dfO g0 a a))), (3, .int (nI 2147483647)), (0, .ref (ad 70)), (1, .int (nI a)), (2, .int (nI b))] → W p l e rm_Lr s m args below meth c H locs 43 258 Q (F0 m 630 ls [])) : ∀ (g : Nat → Nat → Int32) (z : Nat → Nat) (H : Heap) (locs : List Loc) (ls : Array Slot), SR g0 a t b g z → va_P D vwCl (rlW cA ad g z) H → va_D A (rlW cA ad g z) → va_S A s.heap H locs → lv_has ls 16 [(12, .int (nI 1)), (15, .int (nI 1)), (14, .int (nI 1)), (13, .int (nI 12)), (11, .int (-1)), (10, .int (-1)), (9, .int (-1)), (8, .int (-1)), (7, .int (-2)), (6, .int (-1)), (5, .int (nI 0)), (4, .int (nI (dfO g0 a a))), (3, .int (nI 2147483647)), (0, .ref (ad 70)), (1, .int (nI a)), (2, .int (nI b))] → W p l e rm_Lr s m args below meth c H locs 40 240 Q (F0 m 577 ls []) := by
  intro g z H locs ls hs hP hD hS hl
  refine lv_aload_n C.hx C.hb dL_refuses_577 rfl (lv_at hl 13 rfl) ?_
  refine lv_iload C.hx C.hb dL_refuses_578 (lv_at hl 3 rfl) ?_
  refine lv_iconst (v := nI 0) C.hx C.hb dL_refuses_580 (by decide +kernel) ?_
  refine lv_iload C.hx C.hb dL_refuses_581 (lv_at hl 7 rfl) ?_
  refine lv_bipush (v := nI 99) C.hx C.hb dL_refuses_583 (by decide +kernel) ?_
  refine lv_iconst (v := nI 0) C.hx C.hb dL_refuses_585 (by decide +kernel) ?_
  refine q_cR (w := 12) (p0 := nI 0) (p1 := -1) (p2 := nI 99) (p3 := nI 0) (r := -7000001) (c2 := 41) (s2 := 246) C hs hP hD hS (rj_join C.htr (notr (by decide +kernel) (by omega))) hl rfl (Nat.le_of_ble_eq_true rfl) ⟨Nat.le_of_ble_eq_true rfl, Nat.le_of_ble_eq_true rfl⟩ ⟨Nat.le_of_ble_eq_true rfl, Nat.le_of_ble_eq_true rfl⟩ ⟨Nat.le_of_ble_eq_true rfl, Nat.le_of_ble_eq_true rfl⟩ dL_refuses_586 (fun g z H locs hs hP hD hS => ?_)
  refine lv_ldc (v := -7000001) C.hx C.hb C.hown (C.hT.use kk_L_90 args) dL_refuses_589 ?_
  refine lv_icmp_ne (tgt := 634) C.hx C.hb dL_refuses_591 (by decide) (fun c9 => absurd c9 (by decide +kernel)) (fun _ => ?_)
  refine lv_aload_n C.hx C.hb dL_refuses_594 rfl (lv_at hl 13 rfl) ?_
  refine lv_iload C.hx C.hb dL_refuses_595 (lv_at hl 3 rfl) ?_
  refine lv_iload C.hx C.hb dL_refuses_597 (lv_at hl 7 rfl) ?_
  refine lv_iload C.hx C.hb dL_refuses_599 (lv_at hl 7 rfl) ?_
  refine lv_iconst (v := nI 0) C.hx C.hb dL_refuses_601 (by decide +kernel) ?_
  refine lv_iconst (v := nI 0) C.hx C.hb dL_refuses_602 (by decide +kernel) ?_
  refine q_cR (w := 12) (p0 := -1) (p1 := -1) (p2 := nI 0) (p3 := nI 0) (r := -7000001) (c2 := 42) (s2 := 252) C hs hP hD hS (ri_join C.htr (notr (by decide +kernel) (by omega))) hl rfl (Nat.le_of_ble_eq_true rfl) ⟨Nat.le_of_ble_eq_true rfl, Nat.le_of_ble_eq_true rfl⟩ ⟨Nat.le_of_ble_eq_true rfl, Nat.le_of_ble_eq_true rfl⟩ ⟨Nat.le_of_ble_eq_true rfl, Nat.le_of_ble_eq_true rfl⟩ dL_refuses_603 (fun g z H locs hs hP hD hS => ?_)
  refine lv_ldc (v := -7000001) C.hx C.hb C.hown (C.hT.use kk_L_90 args) dL_refuses_606 ?_
  refine lv_icmp_ne (tgt := 634) C.hx C.hb dL_refuses_608 (by decide) (fun c9 => absurd c9 (by decide +kernel)) (fun _ => ?_)
  refine lv_iload_n C.hx C.hb dL_refuses_611 rfl (lv_at hl 14 rfl) ?_
  refine lv_if_eq (tgt := 630) C.hx C.hb dL_refuses_612 (by decide) (fun c9 => ?_) (fun c9 => ?_)
  · refine W.widen (k := 43) (n := 258) (Nat.le_of_ble_eq_true rfl) (Nat.le_of_ble_eq_true rfl) ?_
    exact kk g z H locs ls hs hP hD hS hl
  · have ha0 : 0 < a := Nat.pos_of_ne_zero (fun q => c9 (by rw [q]; rfl))
    have hb0 : 0 < b := hab ha0
    refine lv_aload_n C.hx C.hb dL_refuses_615 rfl (lv_at hl 13 rfl) ?_
    refine lv_iload C.hx C.hb dL_refuses_616 (lv_at hl 3 rfl) ?_
    refine lv_iconst (v := nI 0) C.hx C.hb dL_refuses_618 (by decide +kernel) ?_
    refine lv_iconst (v := nI 0) C.hx C.hb dL_refuses_619 (by decide +kernel) ?_
    refine lv_iconst (v := nI 0) C.hx C.hb dL_refuses_620 (by decide +kernel) ?_
    refine lv_iconst (v := nI 0) C.hx C.hb dL_refuses_621 (by decide +kernel) ?_
    refine q_cR (w := 12) (p0 := nI 0) (p1 := nI 0) (p2 := nI 0) (p3 := nI 0) (r := -7000002) (c2 := 43) (s2 := 258) C hs hP hD hS (rs_join C.htr (q_r_nI (by omega))) hl rfl (Nat.le_of_ble_eq_true rfl) ⟨Nat.le_of_ble_eq_true rfl, Nat.le_of_ble_eq_true rfl⟩ ⟨Nat.le_of_ble_eq_true rfl, Nat.le_of_ble_eq_true rfl⟩ ⟨Nat.le_of_ble_eq_true rfl, Nat.le_of_ble_eq_true rfl⟩ dL_refuses_622 (fun g z H locs hs hP hD hS => ?_)
    refine lv_ldc (v := -7000002) C.hx C.hb C.hown (C.hT.use kk_L_93 args) dL_refuses_625 ?_
    refine lv_icmp_ne (tgt := 634) C.hx C.hb dL_refuses_627 (by decide) (fun c9 => absurd c9 (by decide +kernel)) (fun _ => ?_)
    exact kk g z H locs ls hs hP hD hS hl

set_option maxRecDepth 100000 in
set_option maxHeartbeats 4000000 in
theorem tf_18 {p : Program} {l : Launch} {e : Env} {s : State} {m : MethodId} {args : Array Value} {below : List Frame} {meth : Method} {c : Code} {D : va_G} {cA : ClassId} {A : Nat → Prop} {ad : Nat → Nat} {Q : State → Prop} {g0 : Nat → Nat → Int32} {a t b : Nat} (ha : a ≤ 16) (hb9 : b ≤ 40) (hab : 0 < a → 0 < b) (C : lcx p l s m c cL_refuses 16 D cA A) (kk : ∀ (g : Nat → Nat → Int32) (z : Nat → Nat) (H : Heap) (locs : List Loc) (ls : Array Slot), SR g0 a t b g z → va_P D vwCl (rlW cA ad g z) H → va_D A (rlW cA ad g z) → va_S A s.heap H locs → lv_has ls 16 [(12, .int (nI 1)), (15, .int (nI 0)), (14, .int (nI 1)), (13, .int (nI 13)), (11, .int (-1)), (10, .int (-1)), (9, .int (-1)), (8, .int (-1)), (7, .int (-2)), (6, .int (-1)), (5, .int (nI 0)), (4, .int (nI (dfO g0 a a))), (3, .int (nI 2147483647)), (0, .ref (ad 70)), (1, .int (nI a)), (2, .int (nI b))] → W p l e rm_Lr s m args below meth c H locs 44 264 Q (F0 m 637 ls [])) : ∀ (g : Nat → Nat → Int32) (z : Nat → Nat) (H : Heap) (locs : List Loc) (ls : Array Slot), SR g0 a t b g z → va_P D vwCl (rlW cA ad g z) H → va_D A (rlW cA ad g z) → va_S A s.heap H locs → lv_has ls 16 [(12, .int (nI 1)), (15, .int (nI 1)), (14, .int (nI 1)), (13, .int (nI 12)), (11, .int (-1)), (10, .int (-1)), (9, .int (-1)), (8, .int (-1)), (7, .int (-2)), (6, .int (-1)), (5, .int (nI 0)), (4, .int (nI (dfO g0 a a))), (3, .int (nI 2147483647)), (0, .ref (ad 70)), (1, .int (nI a)), (2, .int (nI b))] → W p l e rm_Lr s m args below meth c H locs 43 258 Q (F0 m 630 ls []) := by
  intro g z H locs ls hs hP hD hS hl
  refine lv_iconst (v := nI 1) C.hx C.hb dL_refuses_630 (by decide +kernel) ?_
  refine lv_goto (tgt := 635) C.hx C.hb dL_refuses_631 (by decide) ?_
  refine lv_istore (lv' := [(12, .int (nI 1)), (15, .int (nI 1)), (14, .int (nI 1)), (13, .int (nI 12)), (11, .int (-1)), (10, .int (-1)), (9, .int (-1)), (8, .int (-1)), (7, .int (-2)), (6, .int (-1)), (5, .int (nI 0)), (4, .int (nI (dfO g0 a a))), (3, .int (nI 2147483647)), (0, .ref (ad 70)), (1, .int (nI a)), (2, .int (nI b))]) C.hx C.hb dL_refuses_635 hl (by decide) rfl (fun ls hl => ?_)
  refine lv_iload C.hx C.hb dL_refuses_637 (lv_at hl 3 rfl) ?_
  refine lv_bipush (v := nI 15) C.hx C.hb dL_refuses_639 (by decide +kernel) ?_
  refine lv_icmp_eq (tgt := 658) C.hx C.hb dL_refuses_641 (by decide) (fun c9 => absurd c9 (by decide +kernel)) (fun _ => ?_)
  refine lv_iload C.hx C.hb dL_refuses_644 (lv_at hl 3 rfl) ?_
  refine lv_bipush (v := nI 16) C.hx C.hb dL_refuses_646 (by decide +kernel) ?_
  refine lv_icmp_eq (tgt := 658) C.hx C.hb dL_refuses_648 (by decide) (fun c9 => absurd c9 (by decide +kernel)) (fun _ => ?_)
  refine lv_iload C.hx C.hb dL_refuses_651 (lv_at hl 3 rfl) ?_
  refine lv_bipush (v := nI 18) C.hx C.hb dL_refuses_653 (by decide +kernel) ?_
  refine lv_icmp_ne (tgt := 681) C.hx C.hb dL_refuses_655 (by decide) (fun _ => ?_) (fun c9 => absurd c9 (by decide +kernel))
  refine lv_iinc (v := nI 13) (lv' := [(13, .int (nI 13)), (12, .int (nI 1)), (15, .int (nI 1)), (14, .int (nI 1)), (11, .int (-1)), (10, .int (-1)), (9, .int (-1)), (8, .int (-1)), (7, .int (-2)), (6, .int (-1)), (5, .int (nI 0)), (4, .int (nI (dfO g0 a a))), (3, .int (nI 2147483647)), (0, .ref (ad 70)), (1, .int (nI a)), (2, .int (nI b))]) C.hx C.hb dL_refuses_681 hl (k := 3) rfl (by decide +kernel) (by decide) rfl (fun ls hl => ?_)
  refine lv_goto (tgt := 459) C.hx C.hb dL_refuses_684 (by decide) ?_
  refine lv_iload C.hx C.hb dL_refuses_459 (lv_at hl 0 rfl) ?_
  refine lv_bipush (v := nI 20) C.hx C.hb dL_refuses_461 (by decide +kernel) ?_
  refine lv_icmp_ge (tgt := 687) C.hx C.hb dL_refuses_463 (by decide) (fun c9 => absurd c9 (by decide +kernel)) (fun _ => ?_)
  refine lv_iload C.hx C.hb dL_refuses_466 (lv_at hl 1 rfl) ?_
  refine lv_if_eq (tgt := 687) C.hx C.hb dL_refuses_468 (by decide) (fun c9 => absurd c9 (by decide +kernel)) (fun _ => ?_)
  refine lv_iload C.hx C.hb dL_refuses_471 (lv_at hl 0 rfl) ?_
  refine lv_iconst (v := nI 4) C.hx C.hb dL_refuses_473 (by decide +kernel) ?_
  refine lv_icmp_lt (tgt := 497) C.hx C.hb dL_refuses_474 (by decide) (fun c9 => absurd c9 (by decide +kernel)) (fun _ => ?_)
  refine lv_iload C.hx C.hb dL_refuses_477 (lv_at hl 0 rfl) ?_
  refine lv_iconst (v := nI 5) C.hx C.hb dL_refuses_479 (by decide +kernel) ?_
  refine lv_icmp_le (tgt := 490) C.hx C.hb dL_refuses_480 (by decide) (fun c9 => absurd c9 (by decide +kernel)) (fun _ => ?_)
  refine lv_iload C.hx C.hb dL_refuses_483 (lv_at hl 0 rfl) ?_
  refine lv_bipush (v := nI 15) C.hx C.hb dL_refuses_485 (by decide +kernel) ?_
  refine lv_icmp_lt (tgt := 497) C.hx C.hb dL_refuses_487 (by decide) (fun _ => ?_) (fun c9 => absurd c9 (by decide +kernel))
  refine lv_iconst (v := nI 1) C.hx C.hb dL_refuses_497 (by decide +kernel) ?_
  refine lv_goto (tgt := 502) C.hx C.hb dL_refuses_498 (by decide) ?_
  refine lv_istore (lv' := [(14, .int (nI 1)), (13, .int (nI 13)), (12, .int (nI 1)), (15, .int (nI 1)), (11, .int (-1)), (10, .int (-1)), (9, .int (-1)), (8, .int (-1)), (7, .int (-2)), (6, .int (-1)), (5, .int (nI 0)), (4, .int (nI (dfO g0 a a))), (3, .int (nI 2147483647)), (0, .ref (ad 70)), (1, .int (nI a)), (2, .int (nI b))]) C.hx C.hb dL_refuses_502 hl (by decide) rfl (fun ls hl => ?_)
  refine lv_iload C.hx C.hb dL_refuses_504 (lv_at hl 1 rfl) ?_
  refine lv_iconst (v := nI 3) C.hx C.hb dL_refuses_506 (by decide +kernel) ?_
  refine lv_icmp_eq (tgt := 531) C.hx C.hb dL_refuses_507 (by decide) (fun c9 => absurd c9 (by decide +kernel)) (fun _ => ?_)
  refine lv_iload C.hx C.hb dL_refuses_510 (lv_at hl 1 rfl) ?_
  refine lv_bipush (v := nI 7) C.hx C.hb dL_refuses_512 (by decide +kernel) ?_
  refine lv_icmp_le (tgt := 524) C.hx C.hb dL_refuses_514 (by decide) (fun c9 => absurd c9 (by decide +kernel)) (fun _ => ?_)
  refine lv_iload C.hx C.hb dL_refuses_517 (lv_at hl 1 rfl) ?_
  refine lv_bipush (v := nI 13) C.hx C.hb dL_refuses_519 (by decide +kernel) ?_
  refine lv_icmp_lt (tgt := 531) C.hx C.hb dL_refuses_521 (by decide) (fun c9 => absurd c9 (by decide +kernel)) (fun _ => ?_)
  refine lv_iload C.hx C.hb dL_refuses_524 (lv_at hl 1 rfl) ?_
  refine lv_bipush (v := nI 19) C.hx C.hb dL_refuses_526 (by decide +kernel) ?_
  refine lv_icmp_ne (tgt := 535) C.hx C.hb dL_refuses_528 (by decide) (fun _ => ?_) (fun c9 => absurd c9 (by decide +kernel))
  refine lv_iconst (v := nI 0) C.hx C.hb dL_refuses_535 (by decide +kernel) ?_
  refine lv_istore (lv' := [(15, .int (nI 0)), (14, .int (nI 1)), (13, .int (nI 13)), (12, .int (nI 1)), (11, .int (-1)), (10, .int (-1)), (9, .int (-1)), (8, .int (-1)), (7, .int (-2)), (6, .int (-1)), (5, .int (nI 0)), (4, .int (nI (dfO g0 a a))), (3, .int (nI 2147483647)), (0, .ref (ad 70)), (1, .int (nI a)), (2, .int (nI b))]) C.hx C.hb dL_refuses_536 hl (by decide) rfl (fun ls hl => ?_)
  refine lv_iload C.hx C.hb dL_refuses_538 (lv_at hl 1 rfl) ?_
  refine lv_if_eq (tgt := 567) C.hx C.hb dL_refuses_540 (by decide) (fun c9 => absurd c9 (by decide +kernel)) (fun _ => ?_)
  refine lv_aload_n C.hx C.hb dL_refuses_543 rfl (lv_at hl 13 rfl) ?_
  refine lv_iload C.hx C.hb dL_refuses_544 (lv_at hl 2 rfl) ?_
  refine lv_iload C.hx C.hb dL_refuses_546 (lv_at hl 7 rfl) ?_
  refine lv_iconst (v := nI 0) C.hx C.hb dL_refuses_548 (by decide +kernel) ?_
  refine lv_bipush (v := nI 99) C.hx C.hb dL_refuses_549 (by decide +kernel) ?_
  refine lv_iconst (v := nI 0) C.hx C.hb dL_refuses_551 (by decide +kernel) ?_
  refine q_cR (w := 13) (p0 := -1) (p1 := nI 0) (p2 := nI 99) (p3 := nI 0) (r := -7000001) (c2 := 44) (s2 := 264) C hs hP hD hS (ri_split C.htr (notr (by decide +kernel) (by omega))) hl rfl (Nat.le_of_ble_eq_true rfl) ⟨Nat.le_of_ble_eq_true rfl, Nat.le_of_ble_eq_true rfl⟩ ⟨Nat.le_of_ble_eq_true rfl, Nat.le_of_ble_eq_true rfl⟩ ⟨Nat.le_of_ble_eq_true rfl, Nat.le_of_ble_eq_true rfl⟩ dL_refuses_552 (fun g z H locs hs hP hD hS => ?_)
  refine lv_ldc (v := -7000001) C.hx C.hb C.hown (C.hT.use kk_L_90 args) dL_refuses_555 ?_
  refine lv_icmp_ne (tgt := 564) C.hx C.hb dL_refuses_557 (by decide) (fun c9 => absurd c9 (by decide +kernel)) (fun _ => ?_)
  refine lv_iconst (v := nI 1) C.hx C.hb dL_refuses_560 (by decide +kernel) ?_
  refine lv_goto (tgt := 565) C.hx C.hb dL_refuses_561 (by decide) ?_
  refine lv_istore (lv' := [(12, .int (nI 1)), (15, .int (nI 0)), (14, .int (nI 1)), (13, .int (nI 13)), (11, .int (-1)), (10, .int (-1)), (9, .int (-1)), (8, .int (-1)), (7, .int (-2)), (6, .int (-1)), (5, .int (nI 0)), (4, .int (nI (dfO g0 a a))), (3, .int (nI 2147483647)), (0, .ref (ad 70)), (1, .int (nI a)), (2, .int (nI b))]) C.hx C.hb dL_refuses_565 hl (by decide) rfl (fun ls hl => ?_)
  refine lv_iload C.hx C.hb dL_refuses_567 (lv_at hl 1 rfl) ?_
  refine lv_if_eq (tgt := 637) C.hx C.hb dL_refuses_569 (by decide) (fun _ => ?_) (fun c9 => absurd c9 (by decide +kernel))
  exact kk g z H locs ls hs hP hD hS hl

set_option maxRecDepth 100000 in
set_option maxHeartbeats 4000000 in
theorem tf_19 {p : Program} {l : Launch} {e : Env} {s : State} {m : MethodId} {args : Array Value} {below : List Frame} {meth : Method} {c : Code} {D : va_G} {cA : ClassId} {A : Nat → Prop} {ad : Nat → Nat} {Q : State → Prop} {g0 : Nat → Nat → Int32} {a t b : Nat} (ha : a ≤ 16) (hb9 : b ≤ 40) (hab : 0 < a → 0 < b) (C : lcx p l s m c cL_refuses 16 D cA A) (kk : ∀ (g : Nat → Nat → Int32) (z : Nat → Nat) (H : Heap) (locs : List Loc) (ls : Array Slot), SR g0 a t b g z → va_P D vwCl (rlW cA ad g z) H → va_D A (rlW cA ad g z) → va_S A s.heap H locs → lv_has ls 16 [(12, .int (nI 1)), (15, .int (nI 0)), (14, .int (nI 1)), (13, .int (nI 14)), (11, .int (-1)), (10, .int (-1)), (9, .int (-1)), (8, .int (-1)), (7, .int (-2)), (6, .int (-1)), (5, .int (nI 0)), (4, .int (nI (dfO g0 a a))), (3, .int (nI 2147483647)), (0, .ref (ad 70)), (1, .int (nI a)), (2, .int (nI b))] → W p l e rm_Lr s m args below meth c H locs 45 270 Q (F0 m 644 ls [])) : ∀ (g : Nat → Nat → Int32) (z : Nat → Nat) (H : Heap) (locs : List Loc) (ls : Array Slot), SR g0 a t b g z → va_P D vwCl (rlW cA ad g z) H → va_D A (rlW cA ad g z) → va_S A s.heap H locs → lv_has ls 16 [(12, .int (nI 1)), (15, .int (nI 0)), (14, .int (nI 1)), (13, .int (nI 13)), (11, .int (-1)), (10, .int (-1)), (9, .int (-1)), (8, .int (-1)), (7, .int (-2)), (6, .int (-1)), (5, .int (nI 0)), (4, .int (nI (dfO g0 a a))), (3, .int (nI 2147483647)), (0, .ref (ad 70)), (1, .int (nI a)), (2, .int (nI b))] → W p l e rm_Lr s m args below meth c H locs 44 264 Q (F0 m 637 ls []) := by
  intro g z H locs ls hs hP hD hS hl
  refine lv_iload C.hx C.hb dL_refuses_637 (lv_at hl 3 rfl) ?_
  refine lv_bipush (v := nI 15) C.hx C.hb dL_refuses_639 (by decide +kernel) ?_
  refine lv_icmp_eq (tgt := 658) C.hx C.hb dL_refuses_641 (by decide) (fun c9 => absurd c9 (by decide +kernel)) (fun _ => ?_)
  refine lv_iload C.hx C.hb dL_refuses_644 (lv_at hl 3 rfl) ?_
  refine lv_bipush (v := nI 16) C.hx C.hb dL_refuses_646 (by decide +kernel) ?_
  refine lv_icmp_eq (tgt := 658) C.hx C.hb dL_refuses_648 (by decide) (fun c9 => absurd c9 (by decide +kernel)) (fun _ => ?_)
  refine lv_iload C.hx C.hb dL_refuses_651 (lv_at hl 3 rfl) ?_
  refine lv_bipush (v := nI 18) C.hx C.hb dL_refuses_653 (by decide +kernel) ?_
  refine lv_icmp_ne (tgt := 681) C.hx C.hb dL_refuses_655 (by decide) (fun _ => ?_) (fun c9 => absurd c9 (by decide +kernel))
  refine lv_iinc (v := nI 14) (lv' := [(13, .int (nI 14)), (12, .int (nI 1)), (15, .int (nI 0)), (14, .int (nI 1)), (11, .int (-1)), (10, .int (-1)), (9, .int (-1)), (8, .int (-1)), (7, .int (-2)), (6, .int (-1)), (5, .int (nI 0)), (4, .int (nI (dfO g0 a a))), (3, .int (nI 2147483647)), (0, .ref (ad 70)), (1, .int (nI a)), (2, .int (nI b))]) C.hx C.hb dL_refuses_681 hl (k := 3) rfl (by decide +kernel) (by decide) rfl (fun ls hl => ?_)
  refine lv_goto (tgt := 459) C.hx C.hb dL_refuses_684 (by decide) ?_
  refine lv_iload C.hx C.hb dL_refuses_459 (lv_at hl 0 rfl) ?_
  refine lv_bipush (v := nI 20) C.hx C.hb dL_refuses_461 (by decide +kernel) ?_
  refine lv_icmp_ge (tgt := 687) C.hx C.hb dL_refuses_463 (by decide) (fun c9 => absurd c9 (by decide +kernel)) (fun _ => ?_)
  refine lv_iload C.hx C.hb dL_refuses_466 (lv_at hl 1 rfl) ?_
  refine lv_if_eq (tgt := 687) C.hx C.hb dL_refuses_468 (by decide) (fun c9 => absurd c9 (by decide +kernel)) (fun _ => ?_)
  refine lv_iload C.hx C.hb dL_refuses_471 (lv_at hl 0 rfl) ?_
  refine lv_iconst (v := nI 4) C.hx C.hb dL_refuses_473 (by decide +kernel) ?_
  refine lv_icmp_lt (tgt := 497) C.hx C.hb dL_refuses_474 (by decide) (fun c9 => absurd c9 (by decide +kernel)) (fun _ => ?_)
  refine lv_iload C.hx C.hb dL_refuses_477 (lv_at hl 0 rfl) ?_
  refine lv_iconst (v := nI 5) C.hx C.hb dL_refuses_479 (by decide +kernel) ?_
  refine lv_icmp_le (tgt := 490) C.hx C.hb dL_refuses_480 (by decide) (fun c9 => absurd c9 (by decide +kernel)) (fun _ => ?_)
  refine lv_iload C.hx C.hb dL_refuses_483 (lv_at hl 0 rfl) ?_
  refine lv_bipush (v := nI 15) C.hx C.hb dL_refuses_485 (by decide +kernel) ?_
  refine lv_icmp_lt (tgt := 497) C.hx C.hb dL_refuses_487 (by decide) (fun _ => ?_) (fun c9 => absurd c9 (by decide +kernel))
  refine lv_iconst (v := nI 1) C.hx C.hb dL_refuses_497 (by decide +kernel) ?_
  refine lv_goto (tgt := 502) C.hx C.hb dL_refuses_498 (by decide) ?_
  refine lv_istore (lv' := [(14, .int (nI 1)), (13, .int (nI 14)), (12, .int (nI 1)), (15, .int (nI 0)), (11, .int (-1)), (10, .int (-1)), (9, .int (-1)), (8, .int (-1)), (7, .int (-2)), (6, .int (-1)), (5, .int (nI 0)), (4, .int (nI (dfO g0 a a))), (3, .int (nI 2147483647)), (0, .ref (ad 70)), (1, .int (nI a)), (2, .int (nI b))]) C.hx C.hb dL_refuses_502 hl (by decide) rfl (fun ls hl => ?_)
  refine lv_iload C.hx C.hb dL_refuses_504 (lv_at hl 1 rfl) ?_
  refine lv_iconst (v := nI 3) C.hx C.hb dL_refuses_506 (by decide +kernel) ?_
  refine lv_icmp_eq (tgt := 531) C.hx C.hb dL_refuses_507 (by decide) (fun c9 => absurd c9 (by decide +kernel)) (fun _ => ?_)
  refine lv_iload C.hx C.hb dL_refuses_510 (lv_at hl 1 rfl) ?_
  refine lv_bipush (v := nI 7) C.hx C.hb dL_refuses_512 (by decide +kernel) ?_
  refine lv_icmp_le (tgt := 524) C.hx C.hb dL_refuses_514 (by decide) (fun c9 => absurd c9 (by decide +kernel)) (fun _ => ?_)
  refine lv_iload C.hx C.hb dL_refuses_517 (lv_at hl 1 rfl) ?_
  refine lv_bipush (v := nI 13) C.hx C.hb dL_refuses_519 (by decide +kernel) ?_
  refine lv_icmp_lt (tgt := 531) C.hx C.hb dL_refuses_521 (by decide) (fun c9 => absurd c9 (by decide +kernel)) (fun _ => ?_)
  refine lv_iload C.hx C.hb dL_refuses_524 (lv_at hl 1 rfl) ?_
  refine lv_bipush (v := nI 19) C.hx C.hb dL_refuses_526 (by decide +kernel) ?_
  refine lv_icmp_ne (tgt := 535) C.hx C.hb dL_refuses_528 (by decide) (fun _ => ?_) (fun c9 => absurd c9 (by decide +kernel))
  refine lv_iconst (v := nI 0) C.hx C.hb dL_refuses_535 (by decide +kernel) ?_
  refine lv_istore (lv' := [(15, .int (nI 0)), (14, .int (nI 1)), (13, .int (nI 14)), (12, .int (nI 1)), (11, .int (-1)), (10, .int (-1)), (9, .int (-1)), (8, .int (-1)), (7, .int (-2)), (6, .int (-1)), (5, .int (nI 0)), (4, .int (nI (dfO g0 a a))), (3, .int (nI 2147483647)), (0, .ref (ad 70)), (1, .int (nI a)), (2, .int (nI b))]) C.hx C.hb dL_refuses_536 hl (by decide) rfl (fun ls hl => ?_)
  refine lv_iload C.hx C.hb dL_refuses_538 (lv_at hl 1 rfl) ?_
  refine lv_if_eq (tgt := 567) C.hx C.hb dL_refuses_540 (by decide) (fun c9 => absurd c9 (by decide +kernel)) (fun _ => ?_)
  refine lv_aload_n C.hx C.hb dL_refuses_543 rfl (lv_at hl 13 rfl) ?_
  refine lv_iload C.hx C.hb dL_refuses_544 (lv_at hl 2 rfl) ?_
  refine lv_iload C.hx C.hb dL_refuses_546 (lv_at hl 7 rfl) ?_
  refine lv_iconst (v := nI 0) C.hx C.hb dL_refuses_548 (by decide +kernel) ?_
  refine lv_bipush (v := nI 99) C.hx C.hb dL_refuses_549 (by decide +kernel) ?_
  refine lv_iconst (v := nI 0) C.hx C.hb dL_refuses_551 (by decide +kernel) ?_
  refine q_cR (w := 14) (p0 := -1) (p1 := nI 0) (p2 := nI 99) (p3 := nI 0) (r := -7000001) (c2 := 45) (s2 := 270) C hs hP hD hS (ri_person C.htr (notr (by decide +kernel) (by omega))) hl rfl (Nat.le_of_ble_eq_true rfl) ⟨Nat.le_of_ble_eq_true rfl, Nat.le_of_ble_eq_true rfl⟩ ⟨Nat.le_of_ble_eq_true rfl, Nat.le_of_ble_eq_true rfl⟩ ⟨Nat.le_of_ble_eq_true rfl, Nat.le_of_ble_eq_true rfl⟩ dL_refuses_552 (fun g z H locs hs hP hD hS => ?_)
  refine lv_ldc (v := -7000001) C.hx C.hb C.hown (C.hT.use kk_L_90 args) dL_refuses_555 ?_
  refine lv_icmp_ne (tgt := 564) C.hx C.hb dL_refuses_557 (by decide) (fun c9 => absurd c9 (by decide +kernel)) (fun _ => ?_)
  refine lv_iconst (v := nI 1) C.hx C.hb dL_refuses_560 (by decide +kernel) ?_
  refine lv_goto (tgt := 565) C.hx C.hb dL_refuses_561 (by decide) ?_
  refine lv_istore (lv' := [(12, .int (nI 1)), (15, .int (nI 0)), (14, .int (nI 1)), (13, .int (nI 14)), (11, .int (-1)), (10, .int (-1)), (9, .int (-1)), (8, .int (-1)), (7, .int (-2)), (6, .int (-1)), (5, .int (nI 0)), (4, .int (nI (dfO g0 a a))), (3, .int (nI 2147483647)), (0, .ref (ad 70)), (1, .int (nI a)), (2, .int (nI b))]) C.hx C.hb dL_refuses_565 hl (by decide) rfl (fun ls hl => ?_)
  refine lv_iload C.hx C.hb dL_refuses_567 (lv_at hl 1 rfl) ?_
  refine lv_if_eq (tgt := 637) C.hx C.hb dL_refuses_569 (by decide) (fun _ => ?_) (fun c9 => absurd c9 (by decide +kernel))
  refine lv_iload C.hx C.hb dL_refuses_637 (lv_at hl 3 rfl) ?_
  refine lv_bipush (v := nI 15) C.hx C.hb dL_refuses_639 (by decide +kernel) ?_
  refine lv_icmp_eq (tgt := 658) C.hx C.hb dL_refuses_641 (by decide) (fun c9 => absurd c9 (by decide +kernel)) (fun _ => ?_)
  exact kk g z H locs ls hs hP hD hS hl

set_option maxRecDepth 100000 in
set_option maxHeartbeats 4000000 in
theorem tf_20 {p : Program} {l : Launch} {e : Env} {s : State} {m : MethodId} {args : Array Value} {below : List Frame} {meth : Method} {c : Code} {D : va_G} {cA : ClassId} {A : Nat → Prop} {ad : Nat → Nat} {Q : State → Prop} {g0 : Nat → Nat → Int32} {a t b : Nat} (ha : a ≤ 16) (hb9 : b ≤ 40) (hab : 0 < a → 0 < b) (C : lcx p l s m c cL_refuses 16 D cA A) (kk : ∀ (g : Nat → Nat → Int32) (z : Nat → Nat) (H : Heap) (locs : List Loc) (ls : Array Slot), SR g0 a t b g z → va_P D vwCl (rlW cA ad g z) H → va_D A (rlW cA ad g z) → va_S A s.heap H locs → lv_has ls 16 [(13, .int (nI 16)), (12, .int (nI 1)), (15, .int (nI 0)), (14, .int (nI 0)), (11, .int (-1)), (10, .int (-1)), (9, .int (-1)), (8, .int (-1)), (7, .int (-2)), (6, .int (-1)), (5, .int (nI 0)), (4, .int (nI (dfO g0 a a))), (3, .int (nI 2147483647)), (0, .ref (ad 70)), (1, .int (nI a)), (2, .int (nI b))] → W p l e rm_Lr s m args below meth c H locs 46 276 Q (F0 m 684 ls [])) : ∀ (g : Nat → Nat → Int32) (z : Nat → Nat) (H : Heap) (locs : List Loc) (ls : Array Slot), SR g0 a t b g z → va_P D vwCl (rlW cA ad g z) H → va_D A (rlW cA ad g z) → va_S A s.heap H locs → lv_has ls 16 [(12, .int (nI 1)), (15, .int (nI 0)), (14, .int (nI 1)), (13, .int (nI 14)), (11, .int (-1)), (10, .int (-1)), (9, .int (-1)), (8, .int (-1)), (7, .int (-2)), (6, .int (-1)), (5, .int (nI 0)), (4, .int (nI (dfO g0 a a))), (3, .int (nI 2147483647)), (0, .ref (ad 70)), (1, .int (nI a)), (2, .int (nI b))] → W p l e rm_Lr s m args below meth c H locs 45 270 Q (F0 m 644 ls []) := by
  intro g z H locs ls hs hP hD hS hl
  refine lv_iload C.hx C.hb dL_refuses_644 (lv_at hl 3 rfl) ?_
  refine lv_bipush (v := nI 16) C.hx C.hb dL_refuses_646 (by decide +kernel) ?_
  refine lv_icmp_eq (tgt := 658) C.hx C.hb dL_refuses_648 (by decide) (fun c9 => absurd c9 (by decide +kernel)) (fun _ => ?_)
  refine lv_iload C.hx C.hb dL_refuses_651 (lv_at hl 3 rfl) ?_
  refine lv_bipush (v := nI 18) C.hx C.hb dL_refuses_653 (by decide +kernel) ?_
  refine lv_icmp_ne (tgt := 681) C.hx C.hb dL_refuses_655 (by decide) (fun _ => ?_) (fun c9 => absurd c9 (by decide +kernel))
  refine lv_iinc (v := nI 15) (lv' := [(13, .int (nI 15)), (12, .int (nI 1)), (15, .int (nI 0)), (14, .int (nI 1)), (11, .int (-1)), (10, .int (-1)), (9, .int (-1)), (8, .int (-1)), (7, .int (-2)), (6, .int (-1)), (5, .int (nI 0)), (4, .int (nI (dfO g0 a a))), (3, .int (nI 2147483647)), (0, .ref (ad 70)), (1, .int (nI a)), (2, .int (nI b))]) C.hx C.hb dL_refuses_681 hl (k := 3) rfl (by decide +kernel) (by decide) rfl (fun ls hl => ?_)
  refine lv_goto (tgt := 459) C.hx C.hb dL_refuses_684 (by decide) ?_
  refine lv_iload C.hx C.hb dL_refuses_459 (lv_at hl 0 rfl) ?_
  refine lv_bipush (v := nI 20) C.hx C.hb dL_refuses_461 (by decide +kernel) ?_
  refine lv_icmp_ge (tgt := 687) C.hx C.hb dL_refuses_463 (by decide) (fun c9 => absurd c9 (by decide +kernel)) (fun _ => ?_)
  refine lv_iload C.hx C.hb dL_refuses_466 (lv_at hl 1 rfl) ?_
  refine lv_if_eq (tgt := 687) C.hx C.hb dL_refuses_468 (by decide) (fun c9 => absurd c9 (by decide +kernel)) (fun _ => ?_)
  refine lv_iload C.hx C.hb dL_refuses_471 (lv_at hl 0 rfl) ?_
  refine lv_iconst (v := nI 4) C.hx C.hb dL_refuses_473 (by decide +kernel) ?_
  refine lv_icmp_lt (tgt := 497) C.hx C.hb dL_refuses_474 (by decide) (fun c9 => absurd c9 (by decide +kernel)) (fun _ => ?_)
  refine lv_iload C.hx C.hb dL_refuses_477 (lv_at hl 0 rfl) ?_
  refine lv_iconst (v := nI 5) C.hx C.hb dL_refuses_479 (by decide +kernel) ?_
  refine lv_icmp_le (tgt := 490) C.hx C.hb dL_refuses_480 (by decide) (fun c9 => absurd c9 (by decide +kernel)) (fun _ => ?_)
  refine lv_iload C.hx C.hb dL_refuses_483 (lv_at hl 0 rfl) ?_
  refine lv_bipush (v := nI 15) C.hx C.hb dL_refuses_485 (by decide +kernel) ?_
  refine lv_icmp_lt (tgt := 497) C.hx C.hb dL_refuses_487 (by decide) (fun c9 => absurd c9 (by decide +kernel)) (fun _ => ?_)
  refine lv_iload C.hx C.hb dL_refuses_490 (lv_at hl 0 rfl) ?_
  refine lv_bipush (v := nI 19) C.hx C.hb dL_refuses_492 (by decide +kernel) ?_
  refine lv_icmp_ne (tgt := 501) C.hx C.hb dL_refuses_494 (by decide) (fun _ => ?_) (fun c9 => absurd c9 (by decide +kernel))
  refine lv_iconst (v := nI 0) C.hx C.hb dL_refuses_501 (by decide +kernel) ?_
  refine lv_istore (lv' := [(14, .int (nI 0)), (13, .int (nI 15)), (12, .int (nI 1)), (15, .int (nI 0)), (11, .int (-1)), (10, .int (-1)), (9, .int (-1)), (8, .int (-1)), (7, .int (-2)), (6, .int (-1)), (5, .int (nI 0)), (4, .int (nI (dfO g0 a a))), (3, .int (nI 2147483647)), (0, .ref (ad 70)), (1, .int (nI a)), (2, .int (nI b))]) C.hx C.hb dL_refuses_502 hl (by decide) rfl (fun ls hl => ?_)
  refine lv_iload C.hx C.hb dL_refuses_504 (lv_at hl 1 rfl) ?_
  refine lv_iconst (v := nI 3) C.hx C.hb dL_refuses_506 (by decide +kernel) ?_
  refine lv_icmp_eq (tgt := 531) C.hx C.hb dL_refuses_507 (by decide) (fun c9 => absurd c9 (by decide +kernel)) (fun _ => ?_)
  refine lv_iload C.hx C.hb dL_refuses_510 (lv_at hl 1 rfl) ?_
  refine lv_bipush (v := nI 7) C.hx C.hb dL_refuses_512 (by decide +kernel) ?_
  refine lv_icmp_le (tgt := 524) C.hx C.hb dL_refuses_514 (by decide) (fun c9 => absurd c9 (by decide +kernel)) (fun _ => ?_)
  refine lv_iload C.hx C.hb dL_refuses_517 (lv_at hl 1 rfl) ?_
  refine lv_bipush (v := nI 13) C.hx C.hb dL_refuses_519 (by decide +kernel) ?_
  refine lv_icmp_lt (tgt := 531) C.hx C.hb dL_refuses_521 (by decide) (fun c9 => absurd c9 (by decide +kernel)) (fun _ => ?_)
  refine lv_iload C.hx C.hb dL_refuses_524 (lv_at hl 1 rfl) ?_
  refine lv_bipush (v := nI 19) C.hx C.hb dL_refuses_526 (by decide +kernel) ?_
  refine lv_icmp_ne (tgt := 535) C.hx C.hb dL_refuses_528 (by decide) (fun _ => ?_) (fun c9 => absurd c9 (by decide +kernel))
  refine lv_iconst (v := nI 0) C.hx C.hb dL_refuses_535 (by decide +kernel) ?_
  refine lv_istore (lv' := [(15, .int (nI 0)), (14, .int (nI 0)), (13, .int (nI 15)), (12, .int (nI 1)), (11, .int (-1)), (10, .int (-1)), (9, .int (-1)), (8, .int (-1)), (7, .int (-2)), (6, .int (-1)), (5, .int (nI 0)), (4, .int (nI (dfO g0 a a))), (3, .int (nI 2147483647)), (0, .ref (ad 70)), (1, .int (nI a)), (2, .int (nI b))]) C.hx C.hb dL_refuses_536 hl (by decide) rfl (fun ls hl => ?_)
  refine lv_iload C.hx C.hb dL_refuses_538 (lv_at hl 1 rfl) ?_
  refine lv_if_eq (tgt := 567) C.hx C.hb dL_refuses_540 (by decide) (fun _ => ?_) (fun c9 => absurd c9 (by decide +kernel))
  refine lv_iload C.hx C.hb dL_refuses_567 (lv_at hl 0 rfl) ?_
  refine lv_if_eq (tgt := 637) C.hx C.hb dL_refuses_569 (by decide) (fun _ => ?_) (fun c9 => absurd c9 (by decide +kernel))
  refine lv_iload C.hx C.hb dL_refuses_637 (lv_at hl 2 rfl) ?_
  refine lv_bipush (v := nI 15) C.hx C.hb dL_refuses_639 (by decide +kernel) ?_
  refine lv_icmp_eq (tgt := 658) C.hx C.hb dL_refuses_641 (by decide) (fun _ => ?_) (fun c9 => absurd c9 (by decide +kernel))
  refine lv_aload_n C.hx C.hb dL_refuses_658 rfl (lv_at hl 13 rfl) ?_
  refine lv_iload C.hx C.hb dL_refuses_659 (lv_at hl 2 rfl) ?_
  refine lv_iload C.hx C.hb dL_refuses_661 (lv_at hl 6 rfl) ?_
  refine lv_iconst (v := nI 0) C.hx C.hb dL_refuses_663 (by decide +kernel) ?_
  refine lv_iconst (v := nI 0) C.hx C.hb dL_refuses_664 (by decide +kernel) ?_
  refine lv_iconst (v := nI 0) C.hx C.hb dL_refuses_665 (by decide +kernel) ?_
  refine q_cR (w := 15) (p0 := -1) (p1 := nI 0) (p2 := nI 0) (p3 := nI 0) (r := -7000001) (c2 := 46) (s2 := 276) C hs hP hD hS (ri_entry C.htr (notr (by decide +kernel) (by omega))) hl rfl (Nat.le_of_ble_eq_true rfl) ⟨Nat.le_of_ble_eq_true rfl, Nat.le_of_ble_eq_true rfl⟩ ⟨Nat.le_of_ble_eq_true rfl, Nat.le_of_ble_eq_true rfl⟩ ⟨Nat.le_of_ble_eq_true rfl, Nat.le_of_ble_eq_true rfl⟩ dL_refuses_666 (fun g z H locs hs hP hD hS => ?_)
  refine lv_ldc (v := -7000001) C.hx C.hb C.hown (C.hT.use kk_L_90 args) dL_refuses_669 ?_
  refine lv_icmp_ne (tgt := 678) C.hx C.hb dL_refuses_671 (by decide) (fun c9 => absurd c9 (by decide +kernel)) (fun _ => ?_)
  refine lv_iconst (v := nI 1) C.hx C.hb dL_refuses_674 (by decide +kernel) ?_
  refine lv_goto (tgt := 679) C.hx C.hb dL_refuses_675 (by decide) ?_
  refine lv_istore (lv' := [(12, .int (nI 1)), (15, .int (nI 0)), (14, .int (nI 0)), (13, .int (nI 15)), (11, .int (-1)), (10, .int (-1)), (9, .int (-1)), (8, .int (-1)), (7, .int (-2)), (6, .int (-1)), (5, .int (nI 0)), (4, .int (nI (dfO g0 a a))), (3, .int (nI 2147483647)), (0, .ref (ad 70)), (1, .int (nI a)), (2, .int (nI b))]) C.hx C.hb dL_refuses_679 hl (by decide) rfl (fun ls hl => ?_)
  refine lv_iinc (v := nI 16) (lv' := [(13, .int (nI 16)), (12, .int (nI 1)), (15, .int (nI 0)), (14, .int (nI 0)), (11, .int (-1)), (10, .int (-1)), (9, .int (-1)), (8, .int (-1)), (7, .int (-2)), (6, .int (-1)), (5, .int (nI 0)), (4, .int (nI (dfO g0 a a))), (3, .int (nI 2147483647)), (0, .ref (ad 70)), (1, .int (nI a)), (2, .int (nI b))]) C.hx C.hb dL_refuses_681 hl (k := 3) rfl (by decide +kernel) (by decide) rfl (fun ls hl => ?_)
  exact kk g z H locs ls hs hP hD hS hl

set_option maxRecDepth 100000 in
set_option maxHeartbeats 4000000 in
theorem tf_21 {p : Program} {l : Launch} {e : Env} {s : State} {m : MethodId} {args : Array Value} {below : List Frame} {meth : Method} {c : Code} {D : va_G} {cA : ClassId} {A : Nat → Prop} {ad : Nat → Nat} {Q : State → Prop} {g0 : Nat → Nat → Int32} {a t b : Nat} (ha : a ≤ 16) (hb9 : b ≤ 40) (hab : 0 < a → 0 < b) (C : lcx p l s m c cL_refuses 16 D cA A) (kk : ∀ (g : Nat → Nat → Int32) (z : Nat → Nat) (H : Heap) (locs : List Loc) (ls : Array Slot), SR g0 a t b g z → va_P D vwCl (rlW cA ad g z) H → va_D A (rlW cA ad g z) → va_S A s.heap H locs → lv_has ls 16 [(13, .int (nI 17)), (12, .int (nI 1)), (15, .int (nI 0)), (14, .int (nI 0)), (11, .int (-1)), (10, .int (-1)), (9, .int (-1)), (8, .int (-1)), (7, .int (-2)), (6, .int (-1)), (5, .int (nI 0)), (4, .int (nI (dfO g0 a a))), (3, .int (nI 2147483647)), (0, .ref (ad 70)), (1, .int (nI a)), (2, .int (nI b))] → W p l e rm_Lr s m args below meth c H locs 47 282 Q (F0 m 466 ls [])) : ∀ (g : Nat → Nat → Int32) (z : Nat → Nat) (H : Heap) (locs : List Loc) (ls : Array Slot), SR g0 a t b g z → va_P D vwCl (rlW cA ad g z) H → va_D A (rlW cA ad g z) → va_S A s.heap H locs → lv_has ls 16 [(13, .int (nI 16)), (12, .int (nI 1)), (15, .int (nI 0)), (14, .int (nI 0)), (11, .int (-1)), (10, .int (-1)), (9, .int (-1)), (8, .int (-1)), (7, .int (-2)), (6, .int (-1)), (5, .int (nI 0)), (4, .int (nI (dfO g0 a a))), (3, .int (nI 2147483647)), (0, .ref (ad 70)), (1, .int (nI a)), (2, .int (nI b))] → W p l e rm_Lr s m args below meth c H locs 46 276 Q (F0 m 684 ls []) := by
  intro g z H locs ls hs hP hD hS hl
  refine lv_goto (tgt := 459) C.hx C.hb dL_refuses_684 (by decide) ?_
  refine lv_iload C.hx C.hb dL_refuses_459 (lv_at hl 0 rfl) ?_
  refine lv_bipush (v := nI 20) C.hx C.hb dL_refuses_461 (by decide +kernel) ?_
  refine lv_icmp_ge (tgt := 687) C.hx C.hb dL_refuses_463 (by decide) (fun c9 => absurd c9 (by decide +kernel)) (fun _ => ?_)
  refine lv_iload C.hx C.hb dL_refuses_466 (lv_at hl 1 rfl) ?_
  refine lv_if_eq (tgt := 687) C.hx C.hb dL_refuses_468 (by decide) (fun c9 => absurd c9 (by decide +kernel)) (fun _ => ?_)
  refine lv_iload C.hx C.hb dL_refuses_471 (lv_at hl 0 rfl) ?_
  refine lv_iconst (v := nI 4) C.hx C.hb dL_refuses_473 (by decide +kernel) ?_
  refine lv_icmp_lt (tgt := 497) C.hx C.hb dL_refuses_474 (by decide) (fun c9 => absurd c9 (by decide +kernel)) (fun _ => ?_)
  refine lv_iload C.hx C.hb dL_refuses_477 (lv_at hl 0 rfl) ?_
  refine lv_iconst (v := nI 5) C.hx C.hb dL_refuses_479 (by decide +kernel) ?_
  refine lv_icmp_le (tgt := 490) C.hx C.hb dL_refuses_480 (by decide) (fun c9 => absurd c9 (by decide +kernel)) (fun _ => ?_)
  refine lv_iload C.hx C.hb dL_refuses_483 (lv_at hl 0 rfl) ?_
  refine lv_bipush (v := nI 15) C.hx C.hb dL_refuses_485 (by decide +kernel) ?_
  refine lv_icmp_lt (tgt := 497) C.hx C.hb dL_refuses_487 (by decide) (fun c9 => absurd c9 (by decide +kernel)) (fun _ => ?_)
  refine lv_iload C.hx C.hb dL_refuses_490 (lv_at hl 0 rfl) ?_
  refine lv_bipush (v := nI 19) C.hx C.hb dL_refuses_492 (by decide +kernel) ?_
  refine lv_icmp_ne (tgt := 501) C.hx C.hb dL_refuses_494 (by decide) (fun _ => ?_) (fun c9 => absurd c9 (by decide +kernel))
  refine lv_iconst (v := nI 0) C.hx C.hb dL_refuses_501 (by decide +kernel) ?_
  refine lv_istore (lv' := [(14, .int (nI 0)), (13, .int (nI 16)), (12, .int (nI 1)), (15, .int (nI 0)), (11, .int (-1)), (10, .int (-1)), (9, .int (-1)), (8, .int (-1)), (7, .int (-2)), (6, .int (-1)), (5, .int (nI 0)), (4, .int (nI (dfO g0 a a))), (3, .int (nI 2147483647)), (0, .ref (ad 70)), (1, .int (nI a)), (2, .int (nI b))]) C.hx C.hb dL_refuses_502 hl (by decide) rfl (fun ls hl => ?_)
  refine lv_iload C.hx C.hb dL_refuses_504 (lv_at hl 1 rfl) ?_
  refine lv_iconst (v := nI 3) C.hx C.hb dL_refuses_506 (by decide +kernel) ?_
  refine lv_icmp_eq (tgt := 531) C.hx C.hb dL_refuses_507 (by decide) (fun c9 => absurd c9 (by decide +kernel)) (fun _ => ?_)
  refine lv_iload C.hx C.hb dL_refuses_510 (lv_at hl 1 rfl) ?_
  refine lv_bipush (v := nI 7) C.hx C.hb dL_refuses_512 (by decide +kernel) ?_
  refine lv_icmp_le (tgt := 524) C.hx C.hb dL_refuses_514 (by decide) (fun c9 => absurd c9 (by decide +kernel)) (fun _ => ?_)
  refine lv_iload C.hx C.hb dL_refuses_517 (lv_at hl 1 rfl) ?_
  refine lv_bipush (v := nI 13) C.hx C.hb dL_refuses_519 (by decide +kernel) ?_
  refine lv_icmp_lt (tgt := 531) C.hx C.hb dL_refuses_521 (by decide) (fun c9 => absurd c9 (by decide +kernel)) (fun _ => ?_)
  refine lv_iload C.hx C.hb dL_refuses_524 (lv_at hl 1 rfl) ?_
  refine lv_bipush (v := nI 19) C.hx C.hb dL_refuses_526 (by decide +kernel) ?_
  refine lv_icmp_ne (tgt := 535) C.hx C.hb dL_refuses_528 (by decide) (fun _ => ?_) (fun c9 => absurd c9 (by decide +kernel))
  refine lv_iconst (v := nI 0) C.hx C.hb dL_refuses_535 (by decide +kernel) ?_
  refine lv_istore (lv' := [(15, .int (nI 0)), (14, .int (nI 0)), (13, .int (nI 16)), (12, .int (nI 1)), (11, .int (-1)), (10, .int (-1)), (9, .int (-1)), (8, .int (-1)), (7, .int (-2)), (6, .int (-1)), (5, .int (nI 0)), (4, .int (nI (dfO g0 a a))), (3, .int (nI 2147483647)), (0, .ref (ad 70)), (1, .int (nI a)), (2, .int (nI b))]) C.hx C.hb dL_refuses_536 hl (by decide) rfl (fun ls hl => ?_)
  refine lv_iload C.hx C.hb dL_refuses_538 (lv_at hl 1 rfl) ?_
  refine lv_if_eq (tgt := 567) C.hx C.hb dL_refuses_540 (by decide) (fun _ => ?_) (fun c9 => absurd c9 (by decide +kernel))
  refine lv_iload C.hx C.hb dL_refuses_567 (lv_at hl 0 rfl) ?_
  refine lv_if_eq (tgt := 637) C.hx C.hb dL_refuses_569 (by decide) (fun _ => ?_) (fun c9 => absurd c9 (by decide +kernel))
  refine lv_iload C.hx C.hb dL_refuses_637 (lv_at hl 2 rfl) ?_
  refine lv_bipush (v := nI 15) C.hx C.hb dL_refuses_639 (by decide +kernel) ?_
  refine lv_icmp_eq (tgt := 658) C.hx C.hb dL_refuses_641 (by decide) (fun c9 => absurd c9 (by decide +kernel)) (fun _ => ?_)
  refine lv_iload C.hx C.hb dL_refuses_644 (lv_at hl 2 rfl) ?_
  refine lv_bipush (v := nI 16) C.hx C.hb dL_refuses_646 (by decide +kernel) ?_
  refine lv_icmp_eq (tgt := 658) C.hx C.hb dL_refuses_648 (by decide) (fun _ => ?_) (fun c9 => absurd c9 (by decide +kernel))
  refine lv_aload_n C.hx C.hb dL_refuses_658 rfl (lv_at hl 13 rfl) ?_
  refine lv_iload C.hx C.hb dL_refuses_659 (lv_at hl 2 rfl) ?_
  refine lv_iload C.hx C.hb dL_refuses_661 (lv_at hl 6 rfl) ?_
  refine lv_iconst (v := nI 0) C.hx C.hb dL_refuses_663 (by decide +kernel) ?_
  refine lv_iconst (v := nI 0) C.hx C.hb dL_refuses_664 (by decide +kernel) ?_
  refine lv_iconst (v := nI 0) C.hx C.hb dL_refuses_665 (by decide +kernel) ?_
  refine q_cR (w := 16) (p0 := -1) (p1 := nI 0) (p2 := nI 0) (p3 := nI 0) (r := -7000001) (c2 := 47) (s2 := 282) C hs hP hD hS (ri_size C.htr (notr (by decide +kernel) (by omega))) hl rfl (Nat.le_of_ble_eq_true rfl) ⟨Nat.le_of_ble_eq_true rfl, Nat.le_of_ble_eq_true rfl⟩ ⟨Nat.le_of_ble_eq_true rfl, Nat.le_of_ble_eq_true rfl⟩ ⟨Nat.le_of_ble_eq_true rfl, Nat.le_of_ble_eq_true rfl⟩ dL_refuses_666 (fun g z H locs hs hP hD hS => ?_)
  refine lv_ldc (v := -7000001) C.hx C.hb C.hown (C.hT.use kk_L_90 args) dL_refuses_669 ?_
  refine lv_icmp_ne (tgt := 678) C.hx C.hb dL_refuses_671 (by decide) (fun c9 => absurd c9 (by decide +kernel)) (fun _ => ?_)
  refine lv_iconst (v := nI 1) C.hx C.hb dL_refuses_674 (by decide +kernel) ?_
  refine lv_goto (tgt := 679) C.hx C.hb dL_refuses_675 (by decide) ?_
  refine lv_istore (lv' := [(12, .int (nI 1)), (15, .int (nI 0)), (14, .int (nI 0)), (13, .int (nI 16)), (11, .int (-1)), (10, .int (-1)), (9, .int (-1)), (8, .int (-1)), (7, .int (-2)), (6, .int (-1)), (5, .int (nI 0)), (4, .int (nI (dfO g0 a a))), (3, .int (nI 2147483647)), (0, .ref (ad 70)), (1, .int (nI a)), (2, .int (nI b))]) C.hx C.hb dL_refuses_679 hl (by decide) rfl (fun ls hl => ?_)
  refine lv_iinc (v := nI 17) (lv' := [(13, .int (nI 17)), (12, .int (nI 1)), (15, .int (nI 0)), (14, .int (nI 0)), (11, .int (-1)), (10, .int (-1)), (9, .int (-1)), (8, .int (-1)), (7, .int (-2)), (6, .int (-1)), (5, .int (nI 0)), (4, .int (nI (dfO g0 a a))), (3, .int (nI 2147483647)), (0, .ref (ad 70)), (1, .int (nI a)), (2, .int (nI b))]) C.hx C.hb dL_refuses_681 hl (k := 3) rfl (by decide +kernel) (by decide) rfl (fun ls hl => ?_)
  refine lv_goto (tgt := 459) C.hx C.hb dL_refuses_684 (by decide) ?_
  refine lv_iload C.hx C.hb dL_refuses_459 (lv_at hl 0 rfl) ?_
  refine lv_bipush (v := nI 20) C.hx C.hb dL_refuses_461 (by decide +kernel) ?_
  refine lv_icmp_ge (tgt := 687) C.hx C.hb dL_refuses_463 (by decide) (fun c9 => absurd c9 (by decide +kernel)) (fun _ => ?_)
  exact kk g z H locs ls hs hP hD hS hl

set_option maxRecDepth 100000 in
set_option maxHeartbeats 4000000 in
theorem tf_22 {p : Program} {l : Launch} {e : Env} {s : State} {m : MethodId} {args : Array Value} {below : List Frame} {meth : Method} {c : Code} {D : va_G} {cA : ClassId} {A : Nat → Prop} {ad : Nat → Nat} {Q : State → Prop} {g0 : Nat → Nat → Int32} {a t b : Nat} (ha : a ≤ 16) (hb9 : b ≤ 40) (hab : 0 < a → 0 < b) (C : lcx p l s m c cL_refuses 16 D cA A) (kk : ∀ (g : Nat → Nat → Int32) (z : Nat → Nat) (H : Heap) (locs : List Loc) (ls : Array Slot), SR g0 a t b g z → va_P D vwCl (rlW cA ad g z) H → va_D A (rlW cA ad g z) → va_S A s.heap H locs → lv_has ls 16 [(13, .int (nI 18)), (15, .int (nI 0)), (14, .int (nI 0)), (12, .int (nI 1)), (11, .int (-1)), (10, .int (-1)), (9, .int (-1)), (8, .int (-1)), (7, .int (-2)), (6, .int (-1)), (5, .int (nI 0)), (4, .int (nI (dfO g0 a a))), (3, .int (nI 2147483647)), (0, .ref (ad 70)), (1, .int (nI a)), (2, .int (nI b))] → W p l e rm_Lr s m args below meth c H locs 47 282 Q (F0 m 501 ls [])) : ∀ (g : Nat → Nat → Int32) (z : Nat → Nat) (H : Heap) (locs : List Loc) (ls : Array Slot), SR g0 a t b g z → va_P D vwCl (rlW cA ad g z) H → va_D A (rlW cA ad g z) → va_S A s.heap H locs → lv_has ls 16 [(13, .int (nI 17)), (12, .int (nI 1)), (15, .int (nI 0)), (14, .int (nI 0)), (11, .int (-1)), (10, .int (-1)), (9, .int (-1)), (8, .int (-1)), (7, .int (-2)), (6, .int (-1)), (5, .int (nI 0)), (4, .int (nI (dfO g0 a a))), (3, .int (nI 2147483647)), (0, .ref (ad 70)), (1, .int (nI a)), (2, .int (nI b))] → W p l e rm_Lr s m args below meth c H locs 47 282 Q (F0 m 466 ls []) := by
  intro g z H locs ls hs hP hD hS hl
  refine lv_iload C.hx C.hb dL_refuses_466 (lv_at hl 1 rfl) ?_
  refine lv_if_eq (tgt := 687) C.hx C.hb dL_refuses_468 (by decide) (fun c9 => absurd c9 (by decide +kernel)) (fun _ => ?_)
  refine lv_iload C.hx C.hb dL_refuses_471 (lv_at hl 0 rfl) ?_
  refine lv_iconst (v := nI 4) C.hx C.hb dL_refuses_473 (by decide +kernel) ?_
  refine lv_icmp_lt (tgt := 497) C.hx C.hb dL_refuses_474 (by decide) (fun c9 => absurd c9 (by decide +kernel)) (fun _ => ?_)
  refine lv_iload C.hx C.hb dL_refuses_477 (lv_at hl 0 rfl) ?_
  refine lv_iconst (v := nI 5) C.hx C.hb dL_refuses_479 (by decide +kernel) ?_
  refine lv_icmp_le (tgt := 490) C.hx C.hb dL_refuses_480 (by decide) (fun c9 => absurd c9 (by decide +kernel)) (fun _ => ?_)
  refine lv_iload C.hx C.hb dL_refuses_483 (lv_at hl 0 rfl) ?_
  refine lv_bipush (v := nI 15) C.hx C.hb dL_refuses_485 (by decide +kernel) ?_
  refine lv_icmp_lt (tgt := 497) C.hx C.hb dL_refuses_487 (by decide) (fun c9 => absurd c9 (by decide +kernel)) (fun _ => ?_)
  refine lv_iload C.hx C.hb dL_refuses_490 (lv_at hl 0 rfl) ?_
  refine lv_bipush (v := nI 19) C.hx C.hb dL_refuses_492 (by decide +kernel) ?_
  refine lv_icmp_ne (tgt := 501) C.hx C.hb dL_refuses_494 (by decide) (fun _ => ?_) (fun c9 => absurd c9 (by decide +kernel))
  refine lv_iconst (v := nI 0) C.hx C.hb dL_refuses_501 (by decide +kernel) ?_
  refine lv_istore (lv' := [(14, .int (nI 0)), (13, .int (nI 17)), (12, .int (nI 1)), (15, .int (nI 0)), (11, .int (-1)), (10, .int (-1)), (9, .int (-1)), (8, .int (-1)), (7, .int (-2)), (6, .int (-1)), (5, .int (nI 0)), (4, .int (nI (dfO g0 a a))), (3, .int (nI 2147483647)), (0, .ref (ad 70)), (1, .int (nI a)), (2, .int (nI b))]) C.hx C.hb dL_refuses_502 hl (by decide) rfl (fun ls hl => ?_)
  refine lv_iload C.hx C.hb dL_refuses_504 (lv_at hl 1 rfl) ?_
  refine lv_iconst (v := nI 3) C.hx C.hb dL_refuses_506 (by decide +kernel) ?_
  refine lv_icmp_eq (tgt := 531) C.hx C.hb dL_refuses_507 (by decide) (fun c9 => absurd c9 (by decide +kernel)) (fun _ => ?_)
  refine lv_iload C.hx C.hb dL_refuses_510 (lv_at hl 1 rfl) ?_
  refine lv_bipush (v := nI 7) C.hx C.hb dL_refuses_512 (by decide +kernel) ?_
  refine lv_icmp_le (tgt := 524) C.hx C.hb dL_refuses_514 (by decide) (fun c9 => absurd c9 (by decide +kernel)) (fun _ => ?_)
  refine lv_iload C.hx C.hb dL_refuses_517 (lv_at hl 1 rfl) ?_
  refine lv_bipush (v := nI 13) C.hx C.hb dL_refuses_519 (by decide +kernel) ?_
  refine lv_icmp_lt (tgt := 531) C.hx C.hb dL_refuses_521 (by decide) (fun c9 => absurd c9 (by decide +kernel)) (fun _ => ?_)
  refine lv_iload C.hx C.hb dL_refuses_524 (lv_at hl 1 rfl) ?_
  refine lv_bipush (v := nI 19) C.hx C.hb dL_refuses_526 (by decide +kernel) ?_
  refine lv_icmp_ne (tgt := 535) C.hx C.hb dL_refuses_528 (by decide) (fun _ => ?_) (fun c9 => absurd c9 (by decide +kernel))
  refine lv_iconst (v := nI 0) C.hx C.hb dL_refuses_535 (by decide +kernel) ?_
  refine lv_istore (lv' := [(15, .int (nI 0)), (14, .int (nI 0)), (13, .int (nI 17)), (12, .int (nI 1)), (11, .int (-1)), (10, .int (-1)), (9, .int (-1)), (8, .int (-1)), (7, .int (-2)), (6, .int (-1)), (5, .int (nI 0)), (4, .int (nI (dfO g0 a a))), (3, .int (nI 2147483647)), (0, .ref (ad 70)), (1, .int (nI a)), (2, .int (nI b))]) C.hx C.hb dL_refuses_536 hl (by decide) rfl (fun ls hl => ?_)
  refine lv_iload C.hx C.hb dL_refuses_538 (lv_at hl 1 rfl) ?_
  refine lv_if_eq (tgt := 567) C.hx C.hb dL_refuses_540 (by decide) (fun _ => ?_) (fun c9 => absurd c9 (by decide +kernel))
  refine lv_iload C.hx C.hb dL_refuses_567 (lv_at hl 0 rfl) ?_
  refine lv_if_eq (tgt := 637) C.hx C.hb dL_refuses_569 (by decide) (fun _ => ?_) (fun c9 => absurd c9 (by decide +kernel))
  refine lv_iload C.hx C.hb dL_refuses_637 (lv_at hl 2 rfl) ?_
  refine lv_bipush (v := nI 15) C.hx C.hb dL_refuses_639 (by decide +kernel) ?_
  refine lv_icmp_eq (tgt := 658) C.hx C.hb dL_refuses_641 (by decide) (fun c9 => absurd c9 (by decide +kernel)) (fun _ => ?_)
  refine lv_iload C.hx C.hb dL_refuses_644 (lv_at hl 2 rfl) ?_
  refine lv_bipush (v := nI 16) C.hx C.hb dL_refuses_646 (by decide +kernel) ?_
  refine lv_icmp_eq (tgt := 658) C.hx C.hb dL_refuses_648 (by decide) (fun c9 => absurd c9 (by decide +kernel)) (fun _ => ?_)
  refine lv_iload C.hx C.hb dL_refuses_651 (lv_at hl 2 rfl) ?_
  refine lv_bipush (v := nI 18) C.hx C.hb dL_refuses_653 (by decide +kernel) ?_
  refine lv_icmp_ne (tgt := 681) C.hx C.hb dL_refuses_655 (by decide) (fun _ => ?_) (fun c9 => absurd c9 (by decide +kernel))
  refine lv_iinc (v := nI 18) (lv' := [(13, .int (nI 18)), (15, .int (nI 0)), (14, .int (nI 0)), (12, .int (nI 1)), (11, .int (-1)), (10, .int (-1)), (9, .int (-1)), (8, .int (-1)), (7, .int (-2)), (6, .int (-1)), (5, .int (nI 0)), (4, .int (nI (dfO g0 a a))), (3, .int (nI 2147483647)), (0, .ref (ad 70)), (1, .int (nI a)), (2, .int (nI b))]) C.hx C.hb dL_refuses_681 hl (k := 2) rfl (by decide +kernel) (by decide) rfl (fun ls hl => ?_)
  refine lv_goto (tgt := 459) C.hx C.hb dL_refuses_684 (by decide) ?_
  refine lv_iload C.hx C.hb dL_refuses_459 (lv_at hl 0 rfl) ?_
  refine lv_bipush (v := nI 20) C.hx C.hb dL_refuses_461 (by decide +kernel) ?_
  refine lv_icmp_ge (tgt := 687) C.hx C.hb dL_refuses_463 (by decide) (fun c9 => absurd c9 (by decide +kernel)) (fun _ => ?_)
  refine lv_iload C.hx C.hb dL_refuses_466 (lv_at hl 3 rfl) ?_
  refine lv_if_eq (tgt := 687) C.hx C.hb dL_refuses_468 (by decide) (fun c9 => absurd c9 (by decide +kernel)) (fun _ => ?_)
  refine lv_iload C.hx C.hb dL_refuses_471 (lv_at hl 0 rfl) ?_
  refine lv_iconst (v := nI 4) C.hx C.hb dL_refuses_473 (by decide +kernel) ?_
  refine lv_icmp_lt (tgt := 497) C.hx C.hb dL_refuses_474 (by decide) (fun c9 => absurd c9 (by decide +kernel)) (fun _ => ?_)
  refine lv_iload C.hx C.hb dL_refuses_477 (lv_at hl 0 rfl) ?_
  refine lv_iconst (v := nI 5) C.hx C.hb dL_refuses_479 (by decide +kernel) ?_
  refine lv_icmp_le (tgt := 490) C.hx C.hb dL_refuses_480 (by decide) (fun c9 => absurd c9 (by decide +kernel)) (fun _ => ?_)
  refine lv_iload C.hx C.hb dL_refuses_483 (lv_at hl 0 rfl) ?_
  refine lv_bipush (v := nI 15) C.hx C.hb dL_refuses_485 (by decide +kernel) ?_
  refine lv_icmp_lt (tgt := 497) C.hx C.hb dL_refuses_487 (by decide) (fun c9 => absurd c9 (by decide +kernel)) (fun _ => ?_)
  refine lv_iload C.hx C.hb dL_refuses_490 (lv_at hl 0 rfl) ?_
  refine lv_bipush (v := nI 19) C.hx C.hb dL_refuses_492 (by decide +kernel) ?_
  refine lv_icmp_ne (tgt := 501) C.hx C.hb dL_refuses_494 (by decide) (fun _ => ?_) (fun c9 => absurd c9 (by decide +kernel))
  exact kk g z H locs ls hs hP hD hS hl

set_option maxRecDepth 100000 in
set_option maxHeartbeats 4000000 in
theorem tf_23 {p : Program} {l : Launch} {e : Env} {s : State} {m : MethodId} {args : Array Value} {below : List Frame} {meth : Method} {c : Code} {D : va_G} {cA : ClassId} {A : Nat → Prop} {ad : Nat → Nat} {Q : State → Prop} {g0 : Nat → Nat → Int32} {a t b : Nat} (ha : a ≤ 16) (hb9 : b ≤ 40) (hab : 0 < a → 0 < b) (C : lcx p l s m c cL_refuses 16 D cA A) (kk : ∀ (g : Nat → Nat → Int32) (z : Nat → Nat) (H : Heap) (locs : List Loc) (ls : Array Slot), SR g0 a t b g z → va_P D vwCl (rlW cA ad g z) H → va_D A (rlW cA ad g z) → va_S A s.heap H locs → lv_has ls 16 [(14, .int (nI 1)), (13, .int (nI 19)), (12, .int (nI 1)), (15, .int (nI 0)), (11, .int (-1)), (10, .int (-1)), (9, .int (-1)), (8, .int (-1)), (7, .int (-2)), (6, .int (-1)), (5, .int (nI 0)), (4, .int (nI (dfO g0 a a))), (3, .int (nI 2147483647)), (0, .ref (ad 70)), (1, .int (nI a)), (2, .int (nI b))] → W p l e rm_Lr s m args below meth c H locs 48 288 Q (F0 m 504 ls [])) : ∀ (g : Nat → Nat → Int32) (z : Nat → Nat) (H : Heap) (locs : List Loc) (ls : Array Slot), SR g0 a t b g z → va_P D vwCl (rlW cA ad g z) H → va_D A (rlW cA ad g z) → va_S A s.heap H locs → lv_has ls 16 [(13, .int (nI 18)), (15, .int (nI 0)), (14, .int (nI 0)), (12, .int (nI 1)), (11, .int (-1)), (10, .int (-1)), (9, .int (-1)), (8, .int (-1)), (7, .int (-2)), (6, .int (-1)), (5, .int (nI 0)), (4, .int (nI (dfO g0 a a))), (3, .int (nI 2147483647)), (0, .ref (ad 70)), (1, .int (nI a)), (2, .int (nI b))] → W p l e rm_Lr s m args below meth c H locs 47 282 Q (F0 m 501 ls []) := by
  intro g z H locs ls hs hP hD hS hl
  refine lv_iconst (v := nI 0) C.hx C.hb dL_refuses_501 (by decide +kernel) ?_
  refine lv_istore (lv' := [(14, .int (nI 0)), (13, .int (nI 18)), (15, .int (nI 0)), (12, .int (nI 1)), (11, .int (-1)), (10, .int (-1)), (9, .int (-1)), (8, .int (-1)), (7, .int (-2)), (6, .int (-1)), (5, .int (nI 0)), (4, .int (nI (dfO g0 a a))), (3, .int (nI 2147483647)), (0, .ref (ad 70)), (1, .int (nI a)), (2, .int (nI b))]) C.hx C.hb dL_refuses_502 hl (by decide) rfl (fun ls hl => ?_)
  refine lv_iload C.hx C.hb dL_refuses_504 (lv_at hl 1 rfl) ?_
  refine lv_iconst (v := nI 3) C.hx C.hb dL_refuses_506 (by decide +kernel) ?_
  refine lv_icmp_eq (tgt := 531) C.hx C.hb dL_refuses_507 (by decide) (fun c9 => absurd c9 (by decide +kernel)) (fun _ => ?_)
  refine lv_iload C.hx C.hb dL_refuses_510 (lv_at hl 1 rfl) ?_
  refine lv_bipush (v := nI 7) C.hx C.hb dL_refuses_512 (by decide +kernel) ?_
  refine lv_icmp_le (tgt := 524) C.hx C.hb dL_refuses_514 (by decide) (fun c9 => absurd c9 (by decide +kernel)) (fun _ => ?_)
  refine lv_iload C.hx C.hb dL_refuses_517 (lv_at hl 1 rfl) ?_
  refine lv_bipush (v := nI 13) C.hx C.hb dL_refuses_519 (by decide +kernel) ?_
  refine lv_icmp_lt (tgt := 531) C.hx C.hb dL_refuses_521 (by decide) (fun c9 => absurd c9 (by decide +kernel)) (fun _ => ?_)
  refine lv_iload C.hx C.hb dL_refuses_524 (lv_at hl 1 rfl) ?_
  refine lv_bipush (v := nI 19) C.hx C.hb dL_refuses_526 (by decide +kernel) ?_
  refine lv_icmp_ne (tgt := 535) C.hx C.hb dL_refuses_528 (by decide) (fun _ => ?_) (fun c9 => absurd c9 (by decide +kernel))
  refine lv_iconst (v := nI 0) C.hx C.hb dL_refuses_535 (by decide +kernel) ?_
  refine lv_istore (lv' := [(15, .int (nI 0)), (14, .int (nI 0)), (13, .int (nI 18)), (12, .int (nI 1)), (11, .int (-1)), (10, .int (-1)), (9, .int (-1)), (8, .int (-1)), (7, .int (-2)), (6, .int (-1)), (5, .int (nI 0)), (4, .int (nI (dfO g0 a a))), (3, .int (nI 2147483647)), (0, .ref (ad 70)), (1, .int (nI a)), (2, .int (nI b))]) C.hx C.hb dL_refuses_536 hl (by decide) rfl (fun ls hl => ?_)
  refine lv_iload C.hx C.hb dL_refuses_538 (lv_at hl 1 rfl) ?_
  refine lv_if_eq (tgt := 567) C.hx C.hb dL_refuses_540 (by decide) (fun _ => ?_) (fun c9 => absurd c9 (by decide +kernel))
  refine lv_iload C.hx C.hb dL_refuses_567 (lv_at hl 0 rfl) ?_
  refine lv_if_eq (tgt := 637) C.hx C.hb dL_refuses_569 (by decide) (fun _ => ?_) (fun c9 => absurd c9 (by decide +kernel))
  refine lv_iload C.hx C.hb dL_refuses_637 (lv_at hl 2 rfl) ?_
  refine lv_bipush (v := nI 15) C.hx C.hb dL_refuses_639 (by decide +kernel) ?_
  refine lv_icmp_eq (tgt := 658) C.hx C.hb dL_refuses_641 (by decide) (fun c9 => absurd c9 (by decide +kernel)) (fun _ => ?_)
  refine lv_iload C.hx C.hb dL_refuses_644 (lv_at hl 2 rfl) ?_
  refine lv_bipush (v := nI 16) C.hx C.hb dL_refuses_646 (by decide +kernel) ?_
  refine lv_icmp_eq (tgt := 658) C.hx C.hb dL_refuses_648 (by decide) (fun c9 => absurd c9 (by decide +kernel)) (fun _ => ?_)
  refine lv_iload C.hx C.hb dL_refuses_651 (lv_at hl 2 rfl) ?_
  refine lv_bipush (v := nI 18) C.hx C.hb dL_refuses_653 (by decide +kernel) ?_
  refine lv_icmp_ne (tgt := 681) C.hx C.hb dL_refuses_655 (by decide) (fun c9 => absurd c9 (by decide +kernel)) (fun _ => ?_)
  refine lv_aload_n C.hx C.hb dL_refuses_658 rfl (lv_at hl 13 rfl) ?_
  refine lv_iload C.hx C.hb dL_refuses_659 (lv_at hl 2 rfl) ?_
  refine lv_iload C.hx C.hb dL_refuses_661 (lv_at hl 6 rfl) ?_
  refine lv_iconst (v := nI 0) C.hx C.hb dL_refuses_663 (by decide +kernel) ?_
  refine lv_iconst (v := nI 0) C.hx C.hb dL_refuses_664 (by decide +kernel) ?_
  refine lv_iconst (v := nI 0) C.hx C.hb dL_refuses_665 (by decide +kernel) ?_
  refine q_cR (w := 18) (p0 := -1) (p1 := nI 0) (p2 := nI 0) (p3 := nI 0) (r := -7000001) (c2 := 48) (s2 := 288) C hs hP hD hS (ri_breaches C.htr (notr (by decide +kernel) (by omega))) hl rfl (Nat.le_of_ble_eq_true rfl) ⟨Nat.le_of_ble_eq_true rfl, Nat.le_of_ble_eq_true rfl⟩ ⟨Nat.le_of_ble_eq_true rfl, Nat.le_of_ble_eq_true rfl⟩ ⟨Nat.le_of_ble_eq_true rfl, Nat.le_of_ble_eq_true rfl⟩ dL_refuses_666 (fun g z H locs hs hP hD hS => ?_)
  refine lv_ldc (v := -7000001) C.hx C.hb C.hown (C.hT.use kk_L_90 args) dL_refuses_669 ?_
  refine lv_icmp_ne (tgt := 678) C.hx C.hb dL_refuses_671 (by decide) (fun c9 => absurd c9 (by decide +kernel)) (fun _ => ?_)
  refine lv_iconst (v := nI 1) C.hx C.hb dL_refuses_674 (by decide +kernel) ?_
  refine lv_goto (tgt := 679) C.hx C.hb dL_refuses_675 (by decide) ?_
  refine lv_istore (lv' := [(12, .int (nI 1)), (15, .int (nI 0)), (14, .int (nI 0)), (13, .int (nI 18)), (11, .int (-1)), (10, .int (-1)), (9, .int (-1)), (8, .int (-1)), (7, .int (-2)), (6, .int (-1)), (5, .int (nI 0)), (4, .int (nI (dfO g0 a a))), (3, .int (nI 2147483647)), (0, .ref (ad 70)), (1, .int (nI a)), (2, .int (nI b))]) C.hx C.hb dL_refuses_679 hl (by decide) rfl (fun ls hl => ?_)
  refine lv_iinc (v := nI 19) (lv' := [(13, .int (nI 19)), (12, .int (nI 1)), (15, .int (nI 0)), (14, .int (nI 0)), (11, .int (-1)), (10, .int (-1)), (9, .int (-1)), (8, .int (-1)), (7, .int (-2)), (6, .int (-1)), (5, .int (nI 0)), (4, .int (nI (dfO g0 a a))), (3, .int (nI 2147483647)), (0, .ref (ad 70)), (1, .int (nI a)), (2, .int (nI b))]) C.hx C.hb dL_refuses_681 hl (k := 3) rfl (by decide +kernel) (by decide) rfl (fun ls hl => ?_)
  refine lv_goto (tgt := 459) C.hx C.hb dL_refuses_684 (by decide) ?_
  refine lv_iload C.hx C.hb dL_refuses_459 (lv_at hl 0 rfl) ?_
  refine lv_bipush (v := nI 20) C.hx C.hb dL_refuses_461 (by decide +kernel) ?_
  refine lv_icmp_ge (tgt := 687) C.hx C.hb dL_refuses_463 (by decide) (fun c9 => absurd c9 (by decide +kernel)) (fun _ => ?_)
  refine lv_iload C.hx C.hb dL_refuses_466 (lv_at hl 1 rfl) ?_
  refine lv_if_eq (tgt := 687) C.hx C.hb dL_refuses_468 (by decide) (fun c9 => absurd c9 (by decide +kernel)) (fun _ => ?_)
  refine lv_iload C.hx C.hb dL_refuses_471 (lv_at hl 0 rfl) ?_
  refine lv_iconst (v := nI 4) C.hx C.hb dL_refuses_473 (by decide +kernel) ?_
  refine lv_icmp_lt (tgt := 497) C.hx C.hb dL_refuses_474 (by decide) (fun c9 => absurd c9 (by decide +kernel)) (fun _ => ?_)
  refine lv_iload C.hx C.hb dL_refuses_477 (lv_at hl 0 rfl) ?_
  refine lv_iconst (v := nI 5) C.hx C.hb dL_refuses_479 (by decide +kernel) ?_
  refine lv_icmp_le (tgt := 490) C.hx C.hb dL_refuses_480 (by decide) (fun c9 => absurd c9 (by decide +kernel)) (fun _ => ?_)
  refine lv_iload C.hx C.hb dL_refuses_483 (lv_at hl 0 rfl) ?_
  refine lv_bipush (v := nI 15) C.hx C.hb dL_refuses_485 (by decide +kernel) ?_
  refine lv_icmp_lt (tgt := 497) C.hx C.hb dL_refuses_487 (by decide) (fun c9 => absurd c9 (by decide +kernel)) (fun _ => ?_)
  refine lv_iload C.hx C.hb dL_refuses_490 (lv_at hl 0 rfl) ?_
  refine lv_bipush (v := nI 19) C.hx C.hb dL_refuses_492 (by decide +kernel) ?_
  refine lv_icmp_ne (tgt := 501) C.hx C.hb dL_refuses_494 (by decide) (fun c9 => absurd c9 (by decide +kernel)) (fun _ => ?_)
  refine lv_iconst (v := nI 1) C.hx C.hb dL_refuses_497 (by decide +kernel) ?_
  refine lv_goto (tgt := 502) C.hx C.hb dL_refuses_498 (by decide) ?_
  refine lv_istore (lv' := [(14, .int (nI 1)), (13, .int (nI 19)), (12, .int (nI 1)), (15, .int (nI 0)), (11, .int (-1)), (10, .int (-1)), (9, .int (-1)), (8, .int (-1)), (7, .int (-2)), (6, .int (-1)), (5, .int (nI 0)), (4, .int (nI (dfO g0 a a))), (3, .int (nI 2147483647)), (0, .ref (ad 70)), (1, .int (nI a)), (2, .int (nI b))]) C.hx C.hb dL_refuses_502 hl (by decide) rfl (fun ls hl => ?_)
  exact kk g z H locs ls hs hP hD hS hl

set_option maxRecDepth 100000 in
set_option maxHeartbeats 4000000 in
theorem tf_24 {p : Program} {l : Launch} {e : Env} {s : State} {m : MethodId} {args : Array Value} {below : List Frame} {meth : Method} {c : Code} {D : va_G} {cA : ClassId} {A : Nat → Prop} {ad : Nat → Nat} {Q : State → Prop} {g0 : Nat → Nat → Int32} {a t b : Nat} (ha : a ≤ 16) (hb9 : b ≤ 40) (hab : 0 < a → 0 < b) (C : lcx p l s m c cL_refuses 16 D cA A) (kk : ∀ (g : Nat → Nat → Int32) (z : Nat → Nat) (H : Heap) (locs : List Loc) (ls : Array Slot), SR g0 a t b g z → va_P D vwCl (rlW cA ad g z) H → va_D A (rlW cA ad g z) → va_S A s.heap H locs → lv_has ls 16 [(12, .int (nI 1)), (15, .int (nI 1)), (14, .int (nI 1)), (13, .int (nI 19)), (11, .int (-1)), (10, .int (-1)), (9, .int (-1)), (8, .int (-1)), (7, .int (-2)), (6, .int (-1)), (5, .int (nI 0)), (4, .int (nI (dfO g0 a a))), (3, .int (nI 2147483647)), (0, .ref (ad 70)), (1, .int (nI a)), (2, .int (nI b))] → W p l e rm_Lr s m args below meth c H locs 52 312 Q (F0 m 630 ls [])) : ∀ (g : Nat → Nat → Int32) (z : Nat → Nat) (H : Heap) (locs : List Loc) (ls : Array Slot), SR g0 a t b g z → va_P D vwCl (rlW cA ad g z) H → va_D A (rlW cA ad g z) → va_S A s.heap H locs → lv_has ls 16 [(14, .int (nI 1)), (13, .int (nI 19)), (12, .int (nI 1)), (15, .int (nI 0)), (11, .int (-1)), (10, .int (-1)), (9, .int (-1)), (8, .int (-1)), (7, .int (-2)), (6, .int (-1)), (5, .int (nI 0)), (4, .int (nI (dfO g0 a a))), (3, .int (nI 2147483647)), (0, .ref (ad 70)), (1, .int (nI a)), (2, .int (nI b))] → W p l e rm_Lr s m args below meth c H locs 48 288 Q (F0 m 504 ls []) := by
  intro g z H locs ls hs hP hD hS hl
  refine lv_iload C.hx C.hb dL_refuses_504 (lv_at hl 1 rfl) ?_
  refine lv_iconst (v := nI 3) C.hx C.hb dL_refuses_506 (by decide +kernel) ?_
  refine lv_icmp_eq (tgt := 531) C.hx C.hb dL_refuses_507 (by decide) (fun c9 => absurd c9 (by decide +kernel)) (fun _ => ?_)
  refine lv_iload C.hx C.hb dL_refuses_510 (lv_at hl 1 rfl) ?_
  refine lv_bipush (v := nI 7) C.hx C.hb dL_refuses_512 (by decide +kernel) ?_
  refine lv_icmp_le (tgt := 524) C.hx C.hb dL_refuses_514 (by decide) (fun c9 => absurd c9 (by decide +kernel)) (fun _ => ?_)
  refine lv_iload C.hx C.hb dL_refuses_517 (lv_at hl 1 rfl) ?_
  refine lv_bipush (v := nI 13) C.hx C.hb dL_refuses_519 (by decide +kernel) ?_
  refine lv_icmp_lt (tgt := 531) C.hx C.hb dL_refuses_521 (by decide) (fun c9 => absurd c9 (by decide +kernel)) (fun _ => ?_)
  refine lv_iload C.hx C.hb dL_refuses_524 (lv_at hl 1 rfl) ?_
  refine lv_bipush (v := nI 19) C.hx C.hb dL_refuses_526 (by decide +kernel) ?_
  refine lv_icmp_ne (tgt := 535) C.hx C.hb dL_refuses_528 (by decide) (fun c9 => absurd c9 (by decide +kernel)) (fun _ => ?_)
  refine lv_iconst (v := nI 1) C.hx C.hb dL_refuses_531 (by decide +kernel) ?_
  refine lv_goto (tgt := 536) C.hx C.hb dL_refuses_532 (by decide) ?_
  refine lv_istore (lv' := [(15, .int (nI 1)), (14, .int (nI 1)), (13, .int (nI 19)), (12, .int (nI 1)), (11, .int (-1)), (10, .int (-1)), (9, .int (-1)), (8, .int (-1)), (7, .int (-2)), (6, .int (-1)), (5, .int (nI 0)), (4, .int (nI (dfO g0 a a))), (3, .int (nI 2147483647)), (0, .ref (ad 70)), (1, .int (nI a)), (2, .int (nI b))]) C.hx C.hb dL_refuses_536 hl (by decide) rfl (fun ls hl => ?_)
  refine lv_iload C.hx C.hb dL_refuses_538 (lv_at hl 1 rfl) ?_
  refine lv_if_eq (tgt := 567) C.hx C.hb dL_refuses_540 (by decide) (fun c9 => absurd c9 (by decide +kernel)) (fun _ => ?_)
  refine lv_aload_n C.hx C.hb dL_refuses_543 rfl (lv_at hl 13 rfl) ?_
  refine lv_iload C.hx C.hb dL_refuses_544 (lv_at hl 2 rfl) ?_
  refine lv_iload C.hx C.hb dL_refuses_546 (lv_at hl 7 rfl) ?_
  refine lv_iconst (v := nI 0) C.hx C.hb dL_refuses_548 (by decide +kernel) ?_
  refine lv_bipush (v := nI 99) C.hx C.hb dL_refuses_549 (by decide +kernel) ?_
  refine lv_iconst (v := nI 0) C.hx C.hb dL_refuses_551 (by decide +kernel) ?_
  refine q_cR (w := 19) (p0 := -1) (p1 := nI 0) (p2 := nI 99) (p3 := nI 0) (r := -7000001) (c2 := 49) (s2 := 294) C hs hP hD hS (ri_kin C.htr (notr (by decide +kernel) (by omega))) hl rfl (Nat.le_of_ble_eq_true rfl) ⟨Nat.le_of_ble_eq_true rfl, Nat.le_of_ble_eq_true rfl⟩ ⟨Nat.le_of_ble_eq_true rfl, Nat.le_of_ble_eq_true rfl⟩ ⟨Nat.le_of_ble_eq_true rfl, Nat.le_of_ble_eq_true rfl⟩ dL_refuses_552 (fun g z H locs hs hP hD hS => ?_)
  refine lv_ldc (v := -7000001) C.hx C.hb C.hown (C.hT.use kk_L_90 args) dL_refuses_555 ?_
  refine lv_icmp_ne (tgt := 564) C.hx C.hb dL_refuses_557 (by decide) (fun c9 => absurd c9 (by decide +kernel)) (fun _ => ?_)
  refine lv_iconst (v := nI 1) C.hx C.hb dL_refuses_560 (by decide +kernel) ?_
  refine lv_goto (tgt := 565) C.hx C.hb dL_refuses_561 (by decide) ?_
  refine lv_istore (lv' := [(12, .int (nI 1)), (15, .int (nI 1)), (14, .int (nI 1)), (13, .int (nI 19)), (11, .int (-1)), (10, .int (-1)), (9, .int (-1)), (8, .int (-1)), (7, .int (-2)), (6, .int (-1)), (5, .int (nI 0)), (4, .int (nI (dfO g0 a a))), (3, .int (nI 2147483647)), (0, .ref (ad 70)), (1, .int (nI a)), (2, .int (nI b))]) C.hx C.hb dL_refuses_565 hl (by decide) rfl (fun ls hl => ?_)
  refine lv_iload C.hx C.hb dL_refuses_567 (lv_at hl 1 rfl) ?_
  refine lv_if_eq (tgt := 637) C.hx C.hb dL_refuses_569 (by decide) (fun c9 => absurd c9 (by decide +kernel)) (fun _ => ?_)
  refine lv_iload C.hx C.hb dL_refuses_572 (lv_at hl 0 rfl) ?_
  refine lv_if_eq (tgt := 634) C.hx C.hb dL_refuses_574 (by decide) (fun c9 => absurd c9 (by decide +kernel)) (fun _ => ?_)
  refine lv_aload_n C.hx C.hb dL_refuses_577 rfl (lv_at hl 13 rfl) ?_
  refine lv_iload C.hx C.hb dL_refuses_578 (lv_at hl 3 rfl) ?_
  refine lv_iconst (v := nI 0) C.hx C.hb dL_refuses_580 (by decide +kernel) ?_
  refine lv_iload C.hx C.hb dL_refuses_581 (lv_at hl 7 rfl) ?_
  refine lv_bipush (v := nI 99) C.hx C.hb dL_refuses_583 (by decide +kernel) ?_
  refine lv_iconst (v := nI 0) C.hx C.hb dL_refuses_585 (by decide +kernel) ?_
  refine q_cR (w := 19) (p0 := nI 0) (p1 := -1) (p2 := nI 99) (p3 := nI 0) (r := -7000001) (c2 := 50) (s2 := 300) C hs hP hD hS (rj_kin C.htr (notr (by decide +kernel) (by omega))) hl rfl (Nat.le_of_ble_eq_true rfl) ⟨Nat.le_of_ble_eq_true rfl, Nat.le_of_ble_eq_true rfl⟩ ⟨Nat.le_of_ble_eq_true rfl, Nat.le_of_ble_eq_true rfl⟩ ⟨Nat.le_of_ble_eq_true rfl, Nat.le_of_ble_eq_true rfl⟩ dL_refuses_586 (fun g z H locs hs hP hD hS => ?_)
  refine lv_ldc (v := -7000001) C.hx C.hb C.hown (C.hT.use kk_L_90 args) dL_refuses_589 ?_
  refine lv_icmp_ne (tgt := 634) C.hx C.hb dL_refuses_591 (by decide) (fun c9 => absurd c9 (by decide +kernel)) (fun _ => ?_)
  refine lv_aload_n C.hx C.hb dL_refuses_594 rfl (lv_at hl 13 rfl) ?_
  refine lv_iload C.hx C.hb dL_refuses_595 (lv_at hl 3 rfl) ?_
  refine lv_iload C.hx C.hb dL_refuses_597 (lv_at hl 7 rfl) ?_
  refine lv_iload C.hx C.hb dL_refuses_599 (lv_at hl 7 rfl) ?_
  refine lv_iconst (v := nI 0) C.hx C.hb dL_refuses_601 (by decide +kernel) ?_
  refine lv_iconst (v := nI 0) C.hx C.hb dL_refuses_602 (by decide +kernel) ?_
  refine q_cR (w := 19) (p0 := -1) (p1 := -1) (p2 := nI 0) (p3 := nI 0) (r := -7000001) (c2 := 51) (s2 := 306) C hs hP hD hS (ri_kin C.htr (notr (by decide +kernel) (by omega))) hl rfl (Nat.le_of_ble_eq_true rfl) ⟨Nat.le_of_ble_eq_true rfl, Nat.le_of_ble_eq_true rfl⟩ ⟨Nat.le_of_ble_eq_true rfl, Nat.le_of_ble_eq_true rfl⟩ ⟨Nat.le_of_ble_eq_true rfl, Nat.le_of_ble_eq_true rfl⟩ dL_refuses_603 (fun g z H locs hs hP hD hS => ?_)
  refine lv_ldc (v := -7000001) C.hx C.hb C.hown (C.hT.use kk_L_90 args) dL_refuses_606 ?_
  refine lv_icmp_ne (tgt := 634) C.hx C.hb dL_refuses_608 (by decide) (fun c9 => absurd c9 (by decide +kernel)) (fun _ => ?_)
  refine lv_iload_n C.hx C.hb dL_refuses_611 rfl (lv_at hl 14 rfl) ?_
  refine lv_if_eq (tgt := 630) C.hx C.hb dL_refuses_612 (by decide) (fun c9 => ?_) (fun c9 => ?_)
  · refine W.widen (k := 52) (n := 312) (Nat.le_of_ble_eq_true rfl) (Nat.le_of_ble_eq_true rfl) ?_
    exact kk g z H locs ls hs hP hD hS hl
  · have ha0 : 0 < a := Nat.pos_of_ne_zero (fun q => c9 (by rw [q]; rfl))
    have hb0 : 0 < b := hab ha0
    refine lv_aload_n C.hx C.hb dL_refuses_615 rfl (lv_at hl 13 rfl) ?_
    refine lv_iload C.hx C.hb dL_refuses_616 (lv_at hl 3 rfl) ?_
    refine lv_iconst (v := nI 0) C.hx C.hb dL_refuses_618 (by decide +kernel) ?_
    refine lv_iconst (v := nI 0) C.hx C.hb dL_refuses_619 (by decide +kernel) ?_
    refine lv_iconst (v := nI 0) C.hx C.hb dL_refuses_620 (by decide +kernel) ?_
    refine lv_iconst (v := nI 0) C.hx C.hb dL_refuses_621 (by decide +kernel) ?_
    refine q_cR (w := 19) (p0 := nI 0) (p1 := nI 0) (p2 := nI 0) (p3 := nI 0) (r := -7000002) (c2 := 52) (s2 := 312) C hs hP hD hS (rs_kin C.htr (q_r_nI (by omega))) hl rfl (Nat.le_of_ble_eq_true rfl) ⟨Nat.le_of_ble_eq_true rfl, Nat.le_of_ble_eq_true rfl⟩ ⟨Nat.le_of_ble_eq_true rfl, Nat.le_of_ble_eq_true rfl⟩ ⟨Nat.le_of_ble_eq_true rfl, Nat.le_of_ble_eq_true rfl⟩ dL_refuses_622 (fun g z H locs hs hP hD hS => ?_)
    refine lv_ldc (v := -7000002) C.hx C.hb C.hown (C.hT.use kk_L_93 args) dL_refuses_625 ?_
    refine lv_icmp_ne (tgt := 634) C.hx C.hb dL_refuses_627 (by decide) (fun c9 => absurd c9 (by decide +kernel)) (fun _ => ?_)
    exact kk g z H locs ls hs hP hD hS hl

set_option maxRecDepth 100000 in
set_option maxHeartbeats 4000000 in
theorem tf_25 {p : Program} {l : Launch} {e : Env} {s : State} {m : MethodId} {args : Array Value} {below : List Frame} {meth : Method} {c : Code} {D : va_G} {cA : ClassId} {A : Nat → Prop} {ad : Nat → Nat} {Q : State → Prop} {g0 : Nat → Nat → Int32} {a t b : Nat} (ha : a ≤ 16) (hb9 : b ≤ 40) (hab : 0 < a → 0 < b) (C : lcx p l s m c cL_refuses 16 D cA A) (kk : ∀ (g : Nat → Nat → Int32) (z : Nat → Nat) (H : Heap) (locs : List Loc) (ls : Array Slot), SR g0 a t b g z → va_P D vwCl (rlW cA ad g z) H → va_D A (rlW cA ad g z) → va_S A s.heap H locs → lv_has ls 16 [(13, .int (nI 20)), (12, .int (nI 1)), (15, .int (nI 1)), (14, .int (nI 1)), (11, .int (-1)), (10, .int (-1)), (9, .int (-1)), (8, .int (-1)), (7, .int (-2)), (6, .int (-1)), (5, .int (nI 0)), (4, .int (nI (dfO g0 a a))), (3, .int (nI 2147483647)), (0, .ref (ad 70)), (1, .int (nI a)), (2, .int (nI b))] → W p l e rm_Lr s m args below meth c H locs 53 318 Q (F0 m 733 ls [])) : ∀ (g : Nat → Nat → Int32) (z : Nat → Nat) (H : Heap) (locs : List Loc) (ls : Array Slot), SR g0 a t b g z → va_P D vwCl (rlW cA ad g z) H → va_D A (rlW cA ad g z) → va_S A s.heap H locs → lv_has ls 16 [(12, .int (nI 1)), (15, .int (nI 1)), (14, .int (nI 1)), (13, .int (nI 19)), (11, .int (-1)), (10, .int (-1)), (9, .int (-1)), (8, .int (-1)), (7, .int (-2)), (6, .int (-1)), (5, .int (nI 0)), (4, .int (nI (dfO g0 a a))), (3, .int (nI 2147483647)), (0, .ref (ad 70)), (1, .int (nI a)), (2, .int (nI b))] → W p l e rm_Lr s m args below meth c H locs 52 312 Q (F0 m 630 ls []) := by
  intro g z H locs ls hs hP hD hS hl
  refine lv_iconst (v := nI 1) C.hx C.hb dL_refuses_630 (by decide +kernel) ?_
  refine lv_goto (tgt := 635) C.hx C.hb dL_refuses_631 (by decide) ?_
  refine lv_istore (lv' := [(12, .int (nI 1)), (15, .int (nI 1)), (14, .int (nI 1)), (13, .int (nI 19)), (11, .int (-1)), (10, .int (-1)), (9, .int (-1)), (8, .int (-1)), (7, .int (-2)), (6, .int (-1)), (5, .int (nI 0)), (4, .int (nI (dfO g0 a a))), (3, .int (nI 2147483647)), (0, .ref (ad 70)), (1, .int (nI a)), (2, .int (nI b))]) C.hx C.hb dL_refuses_635 hl (by decide) rfl (fun ls hl => ?_)
  refine lv_iload C.hx C.hb dL_refuses_637 (lv_at hl 3 rfl) ?_
  refine lv_bipush (v := nI 15) C.hx C.hb dL_refuses_639 (by decide +kernel) ?_
  refine lv_icmp_eq (tgt := 658) C.hx C.hb dL_refuses_641 (by decide) (fun c9 => absurd c9 (by decide +kernel)) (fun _ => ?_)
  refine lv_iload C.hx C.hb dL_refuses_644 (lv_at hl 3 rfl) ?_
  refine lv_bipush (v := nI 16) C.hx C.hb dL_refuses_646 (by decide +kernel) ?_
  refine lv_icmp_eq (tgt := 658) C.hx C.hb dL_refuses_648 (by decide) (fun c9 => absurd c9 (by decide +kernel)) (fun _ => ?_)
  refine lv_iload C.hx C.hb dL_refuses_651 (lv_at hl 3 rfl) ?_
  refine lv_bipush (v := nI 18) C.hx C.hb dL_refuses_653 (by decide +kernel) ?_
  refine lv_icmp_ne (tgt := 681) C.hx C.hb dL_refuses_655 (by decide) (fun _ => ?_) (fun c9 => absurd c9 (by decide +kernel))
  refine lv_iinc (v := nI 20) (lv' := [(13, .int (nI 20)), (12, .int (nI 1)), (15, .int (nI 1)), (14, .int (nI 1)), (11, .int (-1)), (10, .int (-1)), (9, .int (-1)), (8, .int (-1)), (7, .int (-2)), (6, .int (-1)), (5, .int (nI 0)), (4, .int (nI (dfO g0 a a))), (3, .int (nI 2147483647)), (0, .ref (ad 70)), (1, .int (nI a)), (2, .int (nI b))]) C.hx C.hb dL_refuses_681 hl (k := 3) rfl (by decide +kernel) (by decide) rfl (fun ls hl => ?_)
  refine lv_goto (tgt := 459) C.hx C.hb dL_refuses_684 (by decide) ?_
  refine lv_iload C.hx C.hb dL_refuses_459 (lv_at hl 0 rfl) ?_
  refine lv_bipush (v := nI 20) C.hx C.hb dL_refuses_461 (by decide +kernel) ?_
  refine lv_icmp_ge (tgt := 687) C.hx C.hb dL_refuses_463 (by decide) (fun _ => ?_) (fun c9 => absurd c9 (by decide +kernel))
  refine lv_iload C.hx C.hb dL_refuses_687 (lv_at hl 1 rfl) ?_
  refine lv_if_eq (tgt := 737) C.hx C.hb dL_refuses_689 (by decide) (fun c9 => absurd c9 (by decide +kernel)) (fun _ => ?_)
  refine lv_iload_n C.hx C.hb dL_refuses_692 rfl (lv_at hl 14 rfl) ?_
  refine lv_iconst (v := nI 2) C.hx C.hb dL_refuses_693 (by decide +kernel) ?_
  refine lv_icmp_lt (tgt := 733) C.hx C.hb dL_refuses_694 (by decide) (fun c9 => ?_) (fun c9 => ?_)
  · refine W.widen (k := 53) (n := 318) (Nat.le_of_ble_eq_true rfl) (Nat.le_of_ble_eq_true rfl) ?_
    exact kk g z H locs ls hs hP hD hS hl
  · have h2 : 2 ≤ a := by rw [Int32.lt_iff_toInt_lt, nI_toInt (by omega), nI_toInt (by omega)] at c9; omega
    refine lv_aload_n C.hx C.hb dL_refuses_697 rfl (lv_at hl 13 rfl) ?_
    refine lv_iconst (v := nI 3) C.hx C.hb dL_refuses_698 (by decide +kernel) ?_
    refine lv_iconst (v := nI 0) C.hx C.hb dL_refuses_699 (by decide +kernel) ?_
    refine lv_iconst (v := nI 1) C.hx C.hb dL_refuses_700 (by decide +kernel) ?_
    refine lv_iload C.hx C.hb dL_refuses_701 (lv_at hl 10 rfl) ?_
    refine lv_if_ne (tgt := 711) C.hx C.hb dL_refuses_703 (by decide) (fun c9 => absurd c9 (by decide +kernel)) (fun _ => ?_)
    refine lv_bipush (v := -51) C.hx C.hb dL_refuses_706 (by decide +kernel) ?_
    refine lv_goto (tgt := 724) C.hx C.hb dL_refuses_708 (by decide) ?_
    refine lv_iconst (v := nI 0) C.hx C.hb dL_refuses_724 (by decide +kernel) ?_
    refine q_cR (w := 3) (p0 := nI 0) (p1 := nI 1) (p2 := -51) (p3 := nI 0) (r := -7000002) (c2 := 53) (s2 := 318) C hs hP hD hS (rg_ahead (i := 0) (j := 1) C.htr (by omega) (by omega) (by decide) (by decide +kernel)) hl rfl (Nat.le_of_ble_eq_true rfl) ⟨Nat.le_of_ble_eq_true rfl, Nat.le_of_ble_eq_true rfl⟩ ⟨Nat.le_of_ble_eq_true rfl, Nat.le_of_ble_eq_true rfl⟩ ⟨Nat.le_of_ble_eq_true rfl, Nat.le_of_ble_eq_true rfl⟩ dL_refuses_725 (fun g z H locs hs hP hD hS => ?_)
    refine lv_ldc (v := -7000002) C.hx C.hb C.hown (C.hT.use kk_L_93 args) dL_refuses_728 ?_
    refine lv_icmp_ne (tgt := 737) C.hx C.hb dL_refuses_730 (by decide) (fun c9 => absurd c9 (by decide +kernel)) (fun _ => ?_)
    exact kk g z H locs ls hs hP hD hS hl

set_option maxRecDepth 100000 in
set_option maxHeartbeats 4000000 in
theorem tf_26 {p : Program} {l : Launch} {e : Env} {s : State} {m : MethodId} {args : Array Value} {below : List Frame} {meth : Method} {c : Code} {D : va_G} {cA : ClassId} {A : Nat → Prop} {ad : Nat → Nat} {Q : State → Prop} {g0 : Nat → Nat → Int32} {a t b : Nat} (ha : a ≤ 16) (hb9 : b ≤ 40) (hab : 0 < a → 0 < b) (C : lcx p l s m c cL_refuses 16 D cA A) (kk : ∀ (g : Nat → Nat → Int32) (z : Nat → Nat) (H : Heap) (locs : List Loc) (ls : Array Slot), SR g0 a t b g z → va_P D vwCl (rlW cA ad g z) H → va_D A (rlW cA ad g z) → va_S A s.heap H locs → lv_has ls 16 [(12, .int (nI 1)), (13, .int (nI 20)), (15, .int (nI 1)), (14, .int (nI 1)), (11, .int (-1)), (10, .int (-1)), (9, .int (-1)), (8, .int (-1)), (7, .int (-2)), (6, .int (-1)), (5, .int (nI 0)), (4, .int (nI (dfO g0 a a))), (3, .int (nI 2147483647)), (0, .ref (ad 70)), (1, .int (nI a)), (2, .int (nI b))] → W p l e rm_Lr s m args below meth c H locs 59 354 Q (F0 m 931 ls [])) : ∀ (g : Nat → Nat → Int32) (z : Nat → Nat) (H : Heap) (locs : List Loc) (ls : Array Slot), SR g0 a t b g z → va_P D vwCl (rlW cA ad g z) H → va_D A (rlW cA ad g z) → va_S A s.heap H locs → lv_has ls 16 [(13, .int (nI 20)), (12, .int (nI 1)), (15, .int (nI 1)), (14, .int (nI 1)), (11, .int (-1)), (10, .int (-1)), (9, .int (-1)), (8, .int (-1)), (7, .int (-2)), (6, .int (-1)), (5, .int (nI 0)), (4, .int (nI (dfO g0 a a))), (3, .int (nI 2147483647)), (0, .ref (ad 70)), (1, .int (nI a)), (2, .int (nI b))] → W p l e rm_Lr s m args below meth c H locs 53 318 Q (F0 m 733 ls []) := by
  intro g z H locs ls hs hP hD hS hl
  refine lv_iconst (v := nI 1) C.hx C.hb dL_refuses_733 (by decide +kernel) ?_
  refine lv_goto (tgt := 738) C.hx C.hb dL_refuses_734 (by decide) ?_
  refine lv_istore (lv' := [(12, .int (nI 1)), (13, .int (nI 20)), (15, .int (nI 1)), (14, .int (nI 1)), (11, .int (-1)), (10, .int (-1)), (9, .int (-1)), (8, .int (-1)), (7, .int (-2)), (6, .int (-1)), (5, .int (nI 0)), (4, .int (nI (dfO g0 a a))), (3, .int (nI 2147483647)), (0, .ref (ad 70)), (1, .int (nI a)), (2, .int (nI b))]) C.hx C.hb dL_refuses_738 hl (by decide) rfl (fun ls hl => ?_)
  refine lv_iload C.hx C.hb dL_refuses_740 (lv_at hl 0 rfl) ?_
  refine lv_if_eq (tgt := 935) C.hx C.hb dL_refuses_742 (by decide) (fun c9 => absurd c9 (by decide +kernel)) (fun _ => ?_)
  refine lv_iload_n C.hx C.hb dL_refuses_745 rfl (lv_at hl 14 rfl) ?_
  refine lv_if_eq (tgt := 931) C.hx C.hb dL_refuses_746 (by decide) (fun c9 => ?_) (fun c9 => ?_)
  · refine W.widen (k := 59) (n := 354) (Nat.le_of_ble_eq_true rfl) (Nat.le_of_ble_eq_true rfl) ?_
    exact kk g z H locs ls hs hP hD hS hl
  · have ha0 : 0 < a := Nat.pos_of_ne_zero (fun q => c9 (by rw [q]; rfl))
    have hb0 : 0 < b := hab ha0
    refine lv_aload_n C.hx C.hb dL_refuses_749 rfl (lv_at hl 13 rfl) ?_
    refine lv_iconst (v := nI 4) C.hx C.hb dL_refuses_750 (by decide +kernel) ?_
    refine lv_iconst (v := nI 0) C.hx C.hb dL_refuses_751 (by decide +kernel) ?_
    refine lv_iload C.hx C.hb dL_refuses_752 (lv_at hl 10 rfl) ?_
    refine lv_iconst (v := nI 1) C.hx C.hb dL_refuses_754 (by decide +kernel) ?_
    refine lv_icmp_ne (tgt := 764) C.hx C.hb dL_refuses_755 (by decide) (fun _ => ?_) (fun c9 => absurd c9 (by decide +kernel))
    refine lv_iload C.hx C.hb dL_refuses_764 (lv_at hl 9 rfl) ?_
    refine lv_sipush (v := nI 999) C.hx C.hb dL_refuses_766 (by decide +kernel) ?_
    refine lv_iconst (v := nI 0) C.hx C.hb dL_refuses_769 (by decide +kernel) ?_
    refine q_cR (w := 4) (p0 := nI 0) (p1 := -1) (p2 := nI 999) (p3 := nI 0) (r := -7000002) (c2 := 54) (s2 := 324) C hs hP hD hS (rl_find C.htr (q_r_nI (by omega)) (by decide +kernel)) hl rfl (Nat.le_of_ble_eq_true rfl) ⟨Nat.le_of_ble_eq_true rfl, Nat.le_of_ble_eq_true rfl⟩ ⟨Nat.le_of_ble_eq_true rfl, Nat.le_of_ble_eq_true rfl⟩ ⟨Nat.le_of_ble_eq_true rfl, Nat.le_of_ble_eq_true rfl⟩ dL_refuses_770 (fun g z H locs hs hP hD hS => ?_)
    refine lv_ldc (v := -7000002) C.hx C.hb C.hown (C.hT.use kk_L_93 args) dL_refuses_773 ?_
    refine lv_icmp_ne (tgt := 935) C.hx C.hb dL_refuses_775 (by decide) (fun c9 => absurd c9 (by decide +kernel)) (fun _ => ?_)
    refine lv_aload_n C.hx C.hb dL_refuses_778 rfl (lv_at hl 13 rfl) ?_
    refine lv_iconst (v := nI 4) C.hx C.hb dL_refuses_779 (by decide +kernel) ?_
    refine lv_iconst (v := nI 0) C.hx C.hb dL_refuses_780 (by decide +kernel) ?_
    refine lv_iconst (v := nI 5) C.hx C.hb dL_refuses_781 (by decide +kernel) ?_
    refine lv_iload C.hx C.hb dL_refuses_782 (lv_at hl 10 rfl) ?_
    refine lv_if_ne (tgt := 791) C.hx C.hb dL_refuses_784 (by decide) (fun c9 => absurd c9 (by decide +kernel)) (fun _ => ?_)
    refine lv_iconst (v := nI 4) C.hx C.hb dL_refuses_787 (by decide +kernel) ?_
    refine lv_goto (tgt := 805) C.hx C.hb dL_refuses_788 (by decide) ?_
    refine lv_iconst (v := nI 0) C.hx C.hb dL_refuses_805 (by decide +kernel) ?_
    refine q_cR (w := 4) (p0 := nI 0) (p1 := nI 5) (p2 := nI 4) (p3 := nI 0) (r := -7000002) (c2 := 55) (s2 := 330) C hs hP hD hS (rh_find C.htr (q_r_nI (by omega)) (by decide +kernel) (by decide +kernel)) hl rfl (Nat.le_of_ble_eq_true rfl) ⟨Nat.le_of_ble_eq_true rfl, Nat.le_of_ble_eq_true rfl⟩ ⟨Nat.le_of_ble_eq_true rfl, Nat.le_of_ble_eq_true rfl⟩ ⟨Nat.le_of_ble_eq_true rfl, Nat.le_of_ble_eq_true rfl⟩ dL_refuses_806 (fun g z H locs hs hP hD hS => ?_)
    refine lv_ldc (v := -7000002) C.hx C.hb C.hown (C.hT.use kk_L_93 args) dL_refuses_809 ?_
    refine lv_icmp_ne (tgt := 935) C.hx C.hb dL_refuses_811 (by decide) (fun c9 => absurd c9 (by decide +kernel)) (fun _ => ?_)
    refine lv_aload_n C.hx C.hb dL_refuses_814 rfl (lv_at hl 13 rfl) ?_
    refine lv_iconst (v := nI 5) C.hx C.hb dL_refuses_815 (by decide +kernel) ?_
    refine lv_iconst (v := nI 0) C.hx C.hb dL_refuses_816 (by decide +kernel) ?_
    refine lv_iload C.hx C.hb dL_refuses_817 (lv_at hl 10 rfl) ?_
    refine lv_iconst (v := nI 1) C.hx C.hb dL_refuses_819 (by decide +kernel) ?_
    refine lv_icmp_ne (tgt := 829) C.hx C.hb dL_refuses_820 (by decide) (fun _ => ?_) (fun c9 => absurd c9 (by decide +kernel))
    refine lv_iload C.hx C.hb dL_refuses_829 (lv_at hl 9 rfl) ?_
    refine lv_sipush (v := nI 999) C.hx C.hb dL_refuses_831 (by decide +kernel) ?_
    refine lv_iconst (v := nI 0) C.hx C.hb dL_refuses_834 (by decide +kernel) ?_
    refine q_cR (w := 5) (p0 := nI 0) (p1 := -1) (p2 := nI 999) (p3 := nI 0) (r := -7000002) (c2 := 56) (s2 := 336) C hs hP hD hS (rl_wouldMove C.htr (q_r_nI (by omega)) (by decide +kernel)) hl rfl (Nat.le_of_ble_eq_true rfl) ⟨Nat.le_of_ble_eq_true rfl, Nat.le_of_ble_eq_true rfl⟩ ⟨Nat.le_of_ble_eq_true rfl, Nat.le_of_ble_eq_true rfl⟩ ⟨Nat.le_of_ble_eq_true rfl, Nat.le_of_ble_eq_true rfl⟩ dL_refuses_835 (fun g z H locs hs hP hD hS => ?_)
    refine lv_ldc (v := -7000002) C.hx C.hb C.hown (C.hT.use kk_L_93 args) dL_refuses_838 ?_
    refine lv_icmp_ne (tgt := 935) C.hx C.hb dL_refuses_840 (by decide) (fun c9 => absurd c9 (by decide +kernel)) (fun _ => ?_)
    refine lv_aload_n C.hx C.hb dL_refuses_843 rfl (lv_at hl 13 rfl) ?_
    refine lv_iconst (v := nI 5) C.hx C.hb dL_refuses_844 (by decide +kernel) ?_
    refine lv_iconst (v := nI 0) C.hx C.hb dL_refuses_845 (by decide +kernel) ?_
    refine lv_iconst (v := nI 5) C.hx C.hb dL_refuses_846 (by decide +kernel) ?_
    refine lv_iload C.hx C.hb dL_refuses_847 (lv_at hl 10 rfl) ?_
    refine lv_if_ne (tgt := 856) C.hx C.hb dL_refuses_849 (by decide) (fun c9 => absurd c9 (by decide +kernel)) (fun _ => ?_)
    refine lv_iconst (v := nI 4) C.hx C.hb dL_refuses_852 (by decide +kernel) ?_
    refine lv_goto (tgt := 870) C.hx C.hb dL_refuses_853 (by decide) ?_
    refine lv_iconst (v := nI 0) C.hx C.hb dL_refuses_870 (by decide +kernel) ?_
    refine q_cR (w := 5) (p0 := nI 0) (p1 := nI 5) (p2 := nI 4) (p3 := nI 0) (r := -7000002) (c2 := 57) (s2 := 342) C hs hP hD hS (rh_wouldMove C.htr (q_r_nI (by omega)) (by decide +kernel) (by decide +kernel)) hl rfl (Nat.le_of_ble_eq_true rfl) ⟨Nat.le_of_ble_eq_true rfl, Nat.le_of_ble_eq_true rfl⟩ ⟨Nat.le_of_ble_eq_true rfl, Nat.le_of_ble_eq_true rfl⟩ ⟨Nat.le_of_ble_eq_true rfl, Nat.le_of_ble_eq_true rfl⟩ dL_refuses_871 (fun g z H locs hs hP hD hS => ?_)
    refine lv_ldc (v := -7000002) C.hx C.hb C.hown (C.hT.use kk_L_93 args) dL_refuses_874 ?_
    refine lv_icmp_ne (tgt := 935) C.hx C.hb dL_refuses_876 (by decide) (fun c9 => absurd c9 (by decide +kernel)) (fun _ => ?_)
    refine lv_aload_n C.hx C.hb dL_refuses_879 rfl (lv_at hl 13 rfl) ?_
    refine lv_bipush (v := nI 17) C.hx C.hb dL_refuses_880 (by decide +kernel) ?_
    refine lv_iconst (v := nI 0) C.hx C.hb dL_refuses_882 (by decide +kernel) ?_
    refine lv_iload C.hx C.hb dL_refuses_883 (lv_at hl 9 rfl) ?_
    refine lv_iconst (v := nI 0) C.hx C.hb dL_refuses_885 (by decide +kernel) ?_
    refine lv_iconst (v := nI 0) C.hx C.hb dL_refuses_886 (by decide +kernel) ?_
    refine q_cR (w := 17) (p0 := nI 0) (p1 := -1) (p2 := nI 0) (p3 := nI 0) (r := -7000001) (c2 := 58) (s2 := 348) C hs hP hD hS (rc_neg (k := 0) C.htr hb0 (by decide +kernel)) hl rfl (Nat.le_of_ble_eq_true rfl) ⟨Nat.le_of_ble_eq_true rfl, Nat.le_of_ble_eq_true rfl⟩ ⟨Nat.le_of_ble_eq_true rfl, Nat.le_of_ble_eq_true rfl⟩ ⟨Nat.le_of_ble_eq_true rfl, Nat.le_of_ble_eq_true rfl⟩ dL_refuses_887 (fun g z H locs hs hP hD hS => ?_)
    refine lv_iload C.hx C.hb dL_refuses_890 (lv_at hl 9 rfl) ?_
    refine lv_if_le (tgt := 899) C.hx C.hb dL_refuses_892 (by decide) (fun _ => ?_) (fun c9 => absurd c9 (by decide +kernel))
    refine lv_ldc (v := -7000001) C.hx C.hb C.hown (C.hT.use kk_L_90 args) dL_refuses_899 ?_
    refine lv_icmp_ne (tgt := 935) C.hx C.hb dL_refuses_901 (by decide) (fun c9 => absurd c9 (by decide +kernel)) (fun _ => ?_)
    refine lv_aload_n C.hx C.hb dL_refuses_904 rfl (lv_at hl 13 rfl) ?_
    refine lv_bipush (v := nI 23) C.hx C.hb dL_refuses_905 (by decide +kernel) ?_
    refine lv_iconst (v := nI 0) C.hx C.hb dL_refuses_907 (by decide +kernel) ?_
    refine lv_iload C.hx C.hb dL_refuses_908 (lv_at hl 10 rfl) ?_
    refine lv_iconst (v := nI 1) C.hx C.hb dL_refuses_910 (by decide +kernel) ?_
    refine lv_icmp_ne (tgt := 919) C.hx C.hb dL_refuses_911 (by decide) (fun _ => ?_) (fun c9 => absurd c9 (by decide +kernel))
    refine lv_iload C.hx C.hb dL_refuses_919 (lv_at hl 8 rfl) ?_
    refine lv_iconst (v := nI 0) C.hx C.hb dL_refuses_921 (by decide +kernel) ?_
    refine lv_iconst (v := nI 0) C.hx C.hb dL_refuses_922 (by decide +kernel) ?_
    refine q_cR (w := 23) (p0 := nI 0) (p1 := -2) (p2 := nI 0) (p3 := nI 0) (r := -7000002) (c2 := 59) (s2 := 354) C hs hP hD hS (rv_lb C.htr (q_r_nI (by omega)) (by decide +kernel)) hl rfl (Nat.le_of_ble_eq_true rfl) ⟨Nat.le_of_ble_eq_true rfl, Nat.le_of_ble_eq_true rfl⟩ ⟨Nat.le_of_ble_eq_true rfl, Nat.le_of_ble_eq_true rfl⟩ ⟨Nat.le_of_ble_eq_true rfl, Nat.le_of_ble_eq_true rfl⟩ dL_refuses_923 (fun g z H locs hs hP hD hS => ?_)
    refine lv_ldc (v := -7000002) C.hx C.hb C.hown (C.hT.use kk_L_93 args) dL_refuses_926 ?_
    refine lv_icmp_ne (tgt := 935) C.hx C.hb dL_refuses_928 (by decide) (fun c9 => absurd c9 (by decide +kernel)) (fun _ => ?_)
    exact kk g z H locs ls hs hP hD hS hl

set_option maxRecDepth 100000 in
set_option maxHeartbeats 4000000 in
theorem tf_27 {p : Program} {l : Launch} {e : Env} {s : State} {m : MethodId} {args : Array Value} {below : List Frame} {meth : Method} {c : Code} {D : va_G} {cA : ClassId} {A : Nat → Prop} {ad : Nat → Nat} {Q : State → Prop} {g0 : Nat → Nat → Int32} {a t b : Nat} (ha : a ≤ 16) (hb9 : b ≤ 40) (hab : 0 < a → 0 < b) (C : lcx p l s m c cL_refuses 16 D cA A) (kk : ∀ (g : Nat → Nat → Int32) (z : Nat → Nat) (H : Heap) (locs : List Loc) (ls : Array Slot), SR g0 a t b g z → va_P D vwCl (rlW cA ad g z) H → va_D A (rlW cA ad g z) → va_S A s.heap H locs → lv_has ls 16 [(11, .int (nI 10)), (10, .int (nI 8)), (9, .int (nI b)), (8, .int (nI a)), (7, .int (-2147483648)), (6, .int (-2147483648)), (5, .int (nI 1)), (12, .int (nI 1)), (13, .int (nI 20)), (15, .int (nI 1)), (14, .int (nI 1)), (4, .int (nI (dfO g0 a a))), (3, .int (nI 2147483647)), (0, .ref (ad 70)), (1, .int (nI a)), (2, .int (nI b))] → W p l e rm_Lr s m args below meth c H locs 60 360 Q (F0 m 154 ls [])) : ∀ (g : Nat → Nat → Int32) (z : Nat → Nat) (H : Heap) (locs : List Loc) (ls : Array Slot), SR g0 a t b g z → va_P D vwCl (rlW cA ad g z) H → va_D A (rlW cA ad g z) → va_S A s.heap H locs → lv_has ls 16 [(12, .int (nI 1)), (13, .int (nI 20)), (15, .int (nI 1)), (14, .int (nI 1)), (11, .int (-1)), (10, .int (-1)), (9, .int (-1)), (8, .int (-1)), (7, .int (-2)), (6, .int (-1)), (5, .int (nI 0)), (4, .int (nI (dfO g0 a a))), (3, .int (nI 2147483647)), (0, .ref (ad 70)), (1, .int (nI a)), (2, .int (nI b))] → W p l e rm_Lr s m args below meth c H locs 59 354 Q (F0 m 931 ls []) := by
  intro g z H locs ls hs hP hD hS hl
  refine lv_iconst (v := nI 1) C.hx C.hb dL_refuses_931 (by decide +kernel) ?_
  refine lv_goto (tgt := 936) C.hx C.hb dL_refuses_932 (by decide) ?_
  refine lv_istore (lv' := [(12, .int (nI 1)), (13, .int (nI 20)), (15, .int (nI 1)), (14, .int (nI 1)), (11, .int (-1)), (10, .int (-1)), (9, .int (-1)), (8, .int (-1)), (7, .int (-2)), (6, .int (-1)), (5, .int (nI 0)), (4, .int (nI (dfO g0 a a))), (3, .int (nI 2147483647)), (0, .ref (ad 70)), (1, .int (nI a)), (2, .int (nI b))]) C.hx C.hb dL_refuses_936 hl (by decide) rfl (fun ls hl => ?_)
  refine lv_iload C.hx C.hb dL_refuses_938 (lv_at hl 0 rfl) ?_
  refine lv_if_ne (tgt := 945) C.hx C.hb dL_refuses_940 (by decide) (fun _ => ?_) (fun c9 => absurd c9 (by decide +kernel))
  refine lv_iinc (v := nI 1) (lv' := [(5, .int (nI 1)), (12, .int (nI 1)), (13, .int (nI 20)), (15, .int (nI 1)), (14, .int (nI 1)), (11, .int (-1)), (10, .int (-1)), (9, .int (-1)), (8, .int (-1)), (7, .int (-2)), (6, .int (-1)), (4, .int (nI (dfO g0 a a))), (3, .int (nI 2147483647)), (0, .ref (ad 70)), (1, .int (nI a)), (2, .int (nI b))]) C.hx C.hb dL_refuses_945 hl (k := 10) rfl (by decide +kernel) (by decide) rfl (fun ls hl => ?_)
  refine lv_goto (tgt := 12) C.hx C.hb dL_refuses_948 (by decide) ?_
  refine lv_iload C.hx C.hb dL_refuses_12 (lv_at hl 0 rfl) ?_
  refine lv_iconst (v := nI 4) C.hx C.hb dL_refuses_14 (by decide +kernel) ?_
  refine lv_icmp_ge (tgt := 951) C.hx C.hb dL_refuses_15 (by decide) (fun c9 => absurd c9 (by decide +kernel)) (fun _ => ?_)
  refine lv_iload C.hx C.hb dL_refuses_18 (lv_at hl 0 rfl) ?_
  refine lv_if_ne (tgt := 27) C.hx C.hb dL_refuses_20 (by decide) (fun _ => ?_) (fun c9 => absurd c9 (by decide +kernel))
  refine lv_iload C.hx C.hb dL_refuses_27 (lv_at hl 0 rfl) ?_
  refine lv_iconst (v := nI 2) C.hx C.hb dL_refuses_29 (by decide +kernel) ?_
  refine lv_icmp_ne (tgt := 37) C.hx C.hb dL_refuses_30 (by decide) (fun _ => ?_) (fun c9 => absurd c9 (by decide +kernel))
  refine lv_iload_n C.hx C.hb dL_refuses_37 rfl (lv_at hl 12 rfl) ?_
  refine lv_ineg C.hx C.hb dL_refuses_38 ?_
  refine q_top (y := -2147483647) (by decide +kernel) ?_
  refine lv_iconst (v := nI 1) C.hx C.hb dL_refuses_39 (by decide +kernel) ?_
  refine lv_isub C.hx C.hb dL_refuses_40 ?_
  refine q_top (y := -2147483648) (by decide +kernel) ?_
  refine lv_istore (lv' := [(6, .int (-2147483648)), (5, .int (nI 1)), (12, .int (nI 1)), (13, .int (nI 20)), (15, .int (nI 1)), (14, .int (nI 1)), (11, .int (-1)), (10, .int (-1)), (9, .int (-1)), (8, .int (-1)), (7, .int (-2)), (4, .int (nI (dfO g0 a a))), (3, .int (nI 2147483647)), (0, .ref (ad 70)), (1, .int (nI a)), (2, .int (nI b))]) C.hx C.hb dL_refuses_41 hl (by decide) rfl (fun ls hl => ?_)
  refine lv_iload C.hx C.hb dL_refuses_43 (lv_at hl 1 rfl) ?_
  refine lv_if_ne (tgt := 53) C.hx C.hb dL_refuses_45 (by decide) (fun _ => ?_) (fun c9 => absurd c9 (by decide +kernel))
  refine lv_iload C.hx C.hb dL_refuses_53 (lv_at hl 1 rfl) ?_
  refine lv_iconst (v := nI 2) C.hx C.hb dL_refuses_55 (by decide +kernel) ?_
  refine lv_icmp_ne (tgt := 63) C.hx C.hb dL_refuses_56 (by decide) (fun _ => ?_) (fun c9 => absurd c9 (by decide +kernel))
  refine lv_iload_n C.hx C.hb dL_refuses_63 rfl (lv_at hl 12 rfl) ?_
  refine lv_ineg C.hx C.hb dL_refuses_64 ?_
  refine q_top (y := -2147483647) (by decide +kernel) ?_
  refine lv_iconst (v := nI 1) C.hx C.hb dL_refuses_65 (by decide +kernel) ?_
  refine lv_isub C.hx C.hb dL_refuses_66 ?_
  refine q_top (y := -2147483648) (by decide +kernel) ?_
  refine lv_istore (lv' := [(7, .int (-2147483648)), (6, .int (-2147483648)), (5, .int (nI 1)), (12, .int (nI 1)), (13, .int (nI 20)), (15, .int (nI 1)), (14, .int (nI 1)), (11, .int (-1)), (10, .int (-1)), (9, .int (-1)), (8, .int (-1)), (4, .int (nI (dfO g0 a a))), (3, .int (nI 2147483647)), (0, .ref (ad 70)), (1, .int (nI a)), (2, .int (nI b))]) C.hx C.hb dL_refuses_67 hl (by decide) rfl (fun ls hl => ?_)
  refine lv_iload C.hx C.hb dL_refuses_69 (lv_at hl 2 rfl) ?_
  refine lv_iconst (v := nI 1) C.hx C.hb dL_refuses_71 (by decide +kernel) ?_
  refine lv_icmp_ne (tgt := 79) C.hx C.hb dL_refuses_72 (by decide) (fun c9 => absurd c9 (by decide +kernel)) (fun _ => ?_)
  refine lv_iload_n C.hx C.hb dL_refuses_75 rfl (lv_at hl 14 rfl) ?_
  refine lv_goto (tgt := 81) C.hx C.hb dL_refuses_76 (by decide) ?_
  refine lv_istore (lv' := [(8, .int (nI a)), (7, .int (-2147483648)), (6, .int (-2147483648)), (5, .int (nI 1)), (12, .int (nI 1)), (13, .int (nI 20)), (15, .int (nI 1)), (14, .int (nI 1)), (11, .int (-1)), (10, .int (-1)), (9, .int (-1)), (4, .int (nI (dfO g0 a a))), (3, .int (nI 2147483647)), (0, .ref (ad 70)), (1, .int (nI a)), (2, .int (nI b))]) C.hx C.hb dL_refuses_81 hl (by decide) rfl (fun ls hl => ?_)
  refine lv_iload C.hx C.hb dL_refuses_83 (lv_at hl 3 rfl) ?_
  refine lv_iconst (v := nI 1) C.hx C.hb dL_refuses_85 (by decide +kernel) ?_
  refine lv_icmp_ne (tgt := 93) C.hx C.hb dL_refuses_86 (by decide) (fun c9 => absurd c9 (by decide +kernel)) (fun _ => ?_)
  refine lv_iload_n C.hx C.hb dL_refuses_89 rfl (lv_at hl 15 rfl) ?_
  refine lv_goto (tgt := 95) C.hx C.hb dL_refuses_90 (by decide) ?_
  refine lv_istore (lv' := [(9, .int (nI b)), (8, .int (nI a)), (7, .int (-2147483648)), (6, .int (-2147483648)), (5, .int (nI 1)), (12, .int (nI 1)), (13, .int (nI 20)), (15, .int (nI 1)), (14, .int (nI 1)), (11, .int (-1)), (10, .int (-1)), (4, .int (nI (dfO g0 a a))), (3, .int (nI 2147483647)), (0, .ref (ad 70)), (1, .int (nI a)), (2, .int (nI b))]) C.hx C.hb dL_refuses_95 hl (by decide) rfl (fun ls hl => ?_)
  refine lv_iload C.hx C.hb dL_refuses_97 (lv_at hl 4 rfl) ?_
  refine lv_iconst (v := nI 1) C.hx C.hb dL_refuses_99 (by decide +kernel) ?_
  refine lv_icmp_ne (tgt := 108) C.hx C.hb dL_refuses_100 (by decide) (fun c9 => absurd c9 (by decide +kernel)) (fun _ => ?_)
  refine lv_bipush (v := nI 8) C.hx C.hb dL_refuses_103 (by decide +kernel) ?_
  refine lv_goto (tgt := 110) C.hx C.hb dL_refuses_105 (by decide) ?_
  refine lv_istore (lv' := [(10, .int (nI 8)), (9, .int (nI b)), (8, .int (nI a)), (7, .int (-2147483648)), (6, .int (-2147483648)), (5, .int (nI 1)), (12, .int (nI 1)), (13, .int (nI 20)), (15, .int (nI 1)), (14, .int (nI 1)), (11, .int (-1)), (4, .int (nI (dfO g0 a a))), (3, .int (nI 2147483647)), (0, .ref (ad 70)), (1, .int (nI a)), (2, .int (nI b))]) C.hx C.hb dL_refuses_110 hl (by decide) rfl (fun ls hl => ?_)
  refine lv_iload C.hx C.hb dL_refuses_112 (lv_at hl 5 rfl) ?_
  refine lv_iconst (v := nI 1) C.hx C.hb dL_refuses_114 (by decide +kernel) ?_
  refine lv_icmp_ne (tgt := 123) C.hx C.hb dL_refuses_115 (by decide) (fun c9 => absurd c9 (by decide +kernel)) (fun _ => ?_)
  refine lv_bipush (v := nI 10) C.hx C.hb dL_refuses_118 (by decide +kernel) ?_
  refine lv_goto (tgt := 125) C.hx C.hb dL_refuses_120 (by decide) ?_
  refine lv_istore (lv' := [(11, .int (nI 10)), (10, .int (nI 8)), (9, .int (nI b)), (8, .int (nI a)), (7, .int (-2147483648)), (6, .int (-2147483648)), (5, .int (nI 1)), (12, .int (nI 1)), (13, .int (nI 20)), (15, .int (nI 1)), (14, .int (nI 1)), (4, .int (nI (dfO g0 a a))), (3, .int (nI 2147483647)), (0, .ref (ad 70)), (1, .int (nI a)), (2, .int (nI b))]) C.hx C.hb dL_refuses_125 hl (by decide) rfl (fun ls hl => ?_)
  refine lv_aload_n C.hx C.hb dL_refuses_127 rfl (lv_at hl 13 rfl) ?_
  refine lv_iconst (v := nI 0) C.hx C.hb dL_refuses_128 (by decide +kernel) ?_
  refine lv_bipush (v := nI 99) C.hx C.hb dL_refuses_129 (by decide +kernel) ?_
  refine lv_iconst (v := nI 0) C.hx C.hb dL_refuses_131 (by decide +kernel) ?_
  refine lv_iconst (v := nI 0) C.hx C.hb dL_refuses_132 (by decide +kernel) ?_
  refine lv_iload C.hx C.hb dL_refuses_133 (lv_at hl 6 rfl) ?_
  refine lv_iconst (v := nI 1) C.hx C.hb dL_refuses_135 (by decide +kernel) ?_
  refine lv_icmp_ne (tgt := 144) C.hx C.hb dL_refuses_136 (by decide) (fun c9 => absurd c9 (by decide +kernel)) (fun _ => ?_)
  refine lv_bipush (v := nI 8) C.hx C.hb dL_refuses_139 (by decide +kernel) ?_
  refine lv_goto (tgt := 146) C.hx C.hb dL_refuses_141 (by decide) ?_
  refine q_cR (w := 0) (p0 := nI 99) (p1 := nI 0) (p2 := nI 0) (p3 := nI 8) (r := -7000001) (c2 := 60) (s2 := 360) C hs hP hD hS (rm_po C.htr (by decide +kernel) (notn (n := 8) (by decide))) hl rfl (Nat.le_of_ble_eq_true rfl) ⟨Nat.le_of_ble_eq_true rfl, Nat.le_of_ble_eq_true rfl⟩ ⟨Nat.le_of_ble_eq_true rfl, Nat.le_of_ble_eq_true rfl⟩ ⟨Nat.le_of_ble_eq_true rfl, Nat.le_of_ble_eq_true rfl⟩ dL_refuses_146 (fun g z H locs hs hP hD hS => ?_)
  refine lv_ldc (v := -7000001) C.hx C.hb C.hown (C.hT.use kk_L_90 args) dL_refuses_149 ?_
  refine lv_icmp_ne (tgt := 453) C.hx C.hb dL_refuses_151 (by decide) (fun c9 => absurd c9 (by decide +kernel)) (fun _ => ?_)
  exact kk g z H locs ls hs hP hD hS hl

set_option maxRecDepth 100000 in
set_option maxHeartbeats 4000000 in
theorem tf_28 {p : Program} {l : Launch} {e : Env} {s : State} {m : MethodId} {args : Array Value} {below : List Frame} {meth : Method} {c : Code} {D : va_G} {cA : ClassId} {A : Nat → Prop} {ad : Nat → Nat} {Q : State → Prop} {g0 : Nat → Nat → Int32} {a t b : Nat} (ha : a ≤ 16) (hb9 : b ≤ 40) (hab : 0 < a → 0 < b) (C : lcx p l s m c cL_refuses 16 D cA A) (kk : ∀ (g : Nat → Nat → Int32) (z : Nat → Nat) (H : Heap) (locs : List Loc) (ls : Array Slot), SR g0 a t b g z → va_P D vwCl (rlW cA ad g z) H → va_D A (rlW cA ad g z) → va_S A s.heap H locs → lv_has ls 16 [(11, .int (nI 10)), (10, .int (nI 8)), (9, .int (nI b)), (8, .int (nI a)), (7, .int (-2147483648)), (6, .int (-2147483648)), (5, .int (nI 1)), (12, .int (nI 1)), (13, .int (nI 20)), (15, .int (nI 1)), (14, .int (nI 1)), (4, .int (nI (dfO g0 a a))), (3, .int (nI 2147483647)), (0, .ref (ad 70)), (1, .int (nI a)), (2, .int (nI b))] → W p l e rm_Lr s m args below meth c H locs 66 396 Q (F0 m 269 ls [])) : ∀ (g : Nat → Nat → Int32) (z : Nat → Nat) (H : Heap) (locs : List Loc) (ls : Array Slot), SR g0 a t b g z → va_P D vwCl (rlW cA ad g z) H → va_D A (rlW cA ad g z) → va_S A s.heap H locs → lv_has ls 16 [(11, .int (nI 10)), (10, .int (nI 8)), (9, .int (nI b)), (8, .int (nI a)), (7, .int (-2147483648)), (6, .int (-2147483648)), (5, .int (nI 1)), (12, .int (nI 1)), (13, .int (nI 20)), (15, .int (nI 1)), (14, .int (nI 1)), (4, .int (nI (dfO g0 a a))), (3, .int (nI 2147483647)), (0, .ref (ad 70)), (1, .int (nI a)), (2, .int (nI b))] → W p l e rm_Lr s m args below meth c H locs 60 360 Q (F0 m 154 ls []) := by
  intro g z H locs ls hs hP hD hS hl
  refine lv_aload_n C.hx C.hb dL_refuses_154 rfl (lv_at hl 13 rfl) ?_
  refine lv_iconst (v := nI 0) C.hx C.hb dL_refuses_155 (by decide +kernel) ?_
  refine lv_iload C.hx C.hb dL_refuses_156 (lv_at hl 0 rfl) ?_
  refine lv_iconst (v := nI 0) C.hx C.hb dL_refuses_158 (by decide +kernel) ?_
  refine lv_iconst (v := nI 0) C.hx C.hb dL_refuses_159 (by decide +kernel) ?_
  refine lv_iconst (v := nI 0) C.hx C.hb dL_refuses_160 (by decide +kernel) ?_
  refine q_cR (w := 0) (p0 := nI 10) (p1 := nI 0) (p2 := nI 0) (p3 := nI 0) (r := -7000002) (c2 := 61) (s2 := 366) C hs hP hD hS (rm_nm C.htr (Or.inr (q_r_nI (by decide))) (by decide +kernel)) hl rfl (Nat.le_of_ble_eq_true rfl) ⟨Nat.le_of_ble_eq_true rfl, Nat.le_of_ble_eq_true rfl⟩ ⟨Nat.le_of_ble_eq_true rfl, Nat.le_of_ble_eq_true rfl⟩ ⟨Nat.le_of_ble_eq_true rfl, Nat.le_of_ble_eq_true rfl⟩ dL_refuses_161 (fun g z H locs hs hP hD hS => ?_)
  refine lv_ldc (v := -7000002) C.hx C.hb C.hown (C.hT.use kk_L_93 args) dL_refuses_164 ?_
  refine lv_icmp_ne (tgt := 453) C.hx C.hb dL_refuses_166 (by decide) (fun c9 => absurd c9 (by decide +kernel)) (fun _ => ?_)
  refine lv_aload_n C.hx C.hb dL_refuses_169 rfl (lv_at hl 13 rfl) ?_
  refine lv_iconst (v := nI 0) C.hx C.hb dL_refuses_170 (by decide +kernel) ?_
  refine lv_iconst (v := nI 0) C.hx C.hb dL_refuses_171 (by decide +kernel) ?_
  refine lv_iload C.hx C.hb dL_refuses_172 (lv_at hl 6 rfl) ?_
  refine lv_iconst (v := nI 1) C.hx C.hb dL_refuses_174 (by decide +kernel) ?_
  refine lv_icmp_ne (tgt := 183) C.hx C.hb dL_refuses_175 (by decide) (fun c9 => absurd c9 (by decide +kernel)) (fun _ => ?_)
  refine lv_bipush (v := nI 10) C.hx C.hb dL_refuses_178 (by decide +kernel) ?_
  refine lv_goto (tgt := 185) C.hx C.hb dL_refuses_180 (by decide) ?_
  refine lv_iconst (v := nI 0) C.hx C.hb dL_refuses_185 (by decide +kernel) ?_
  refine lv_iconst (v := -1) C.hx C.hb dL_refuses_186 (by decide +kernel) ?_
  refine q_cR (w := 0) (p0 := nI 0) (p1 := nI 10) (p2 := nI 0) (p3 := -1) (r := -7000002) (c2 := 62) (s2 := 372) C hs hP hD hS (rm_fm C.htr (Or.inl rfl) (by decide +kernel) (by decide +kernel)) hl rfl (Nat.le_of_ble_eq_true rfl) ⟨Nat.le_of_ble_eq_true rfl, Nat.le_of_ble_eq_true rfl⟩ ⟨Nat.le_of_ble_eq_true rfl, Nat.le_of_ble_eq_true rfl⟩ ⟨Nat.le_of_ble_eq_true rfl, Nat.le_of_ble_eq_true rfl⟩ dL_refuses_187 (fun g z H locs hs hP hD hS => ?_)
  refine lv_ldc (v := -7000002) C.hx C.hb C.hown (C.hT.use kk_L_93 args) dL_refuses_190 ?_
  refine lv_icmp_ne (tgt := 453) C.hx C.hb dL_refuses_192 (by decide) (fun c9 => absurd c9 (by decide +kernel)) (fun _ => ?_)
  refine lv_aload_n C.hx C.hb dL_refuses_195 rfl (lv_at hl 13 rfl) ?_
  refine lv_iconst (v := nI 0) C.hx C.hb dL_refuses_196 (by decide +kernel) ?_
  refine lv_iconst (v := nI 0) C.hx C.hb dL_refuses_197 (by decide +kernel) ?_
  refine lv_iconst (v := nI 0) C.hx C.hb dL_refuses_198 (by decide +kernel) ?_
  refine lv_iload C.hx C.hb dL_refuses_199 (lv_at hl 6 rfl) ?_
  refine lv_iconst (v := nI 1) C.hx C.hb dL_refuses_201 (by decide +kernel) ?_
  refine lv_icmp_ne (tgt := 210) C.hx C.hb dL_refuses_202 (by decide) (fun c9 => absurd c9 (by decide +kernel)) (fun _ => ?_)
  refine lv_bipush (v := nI 6) C.hx C.hb dL_refuses_205 (by decide +kernel) ?_
  refine lv_goto (tgt := 212) C.hx C.hb dL_refuses_207 (by decide) ?_
  refine lv_bipush (v := nI 7) C.hx C.hb dL_refuses_212 (by decide +kernel) ?_
  refine q_cR (w := 0) (p0 := nI 0) (p1 := nI 0) (p2 := nI 6) (p3 := nI 7) (r := -7000002) (c2 := 63) (s2 := 378) C hs hP hD hS (rm_pl C.htr (Or.inr (q_r_nI (by decide))) (by decide +kernel) (by decide +kernel) (by decide +kernel)) hl rfl (Nat.le_of_ble_eq_true rfl) ⟨Nat.le_of_ble_eq_true rfl, Nat.le_of_ble_eq_true rfl⟩ ⟨Nat.le_of_ble_eq_true rfl, Nat.le_of_ble_eq_true rfl⟩ ⟨Nat.le_of_ble_eq_true rfl, Nat.le_of_ble_eq_true rfl⟩ dL_refuses_214 (fun g z H locs hs hP hD hS => ?_)
  refine lv_ldc (v := -7000002) C.hx C.hb C.hown (C.hT.use kk_L_93 args) dL_refuses_217 ?_
  refine lv_icmp_ne (tgt := 453) C.hx C.hb dL_refuses_219 (by decide) (fun c9 => absurd c9 (by decide +kernel)) (fun _ => ?_)
  refine lv_aload_n C.hx C.hb dL_refuses_222 rfl (lv_at hl 13 rfl) ?_
  refine lv_iconst (v := nI 1) C.hx C.hb dL_refuses_223 (by decide +kernel) ?_
  refine lv_iload C.hx C.hb dL_refuses_224 (lv_at hl 1 rfl) ?_
  refine lv_bipush (v := nI 99) C.hx C.hb dL_refuses_226 (by decide +kernel) ?_
  refine lv_iconst (v := nI 0) C.hx C.hb dL_refuses_228 (by decide +kernel) ?_
  refine lv_iconst (v := nI 0) C.hx C.hb dL_refuses_229 (by decide +kernel) ?_
  refine q_cR (w := 1) (p0 := nI 8) (p1 := nI 99) (p2 := nI 0) (p3 := nI 0) (r := -7000001) (c2 := 64) (s2 := 384) C hs hP hD hS (rr_po C.htr (notn (n := 8) (by decide))) hl rfl (Nat.le_of_ble_eq_true rfl) ⟨Nat.le_of_ble_eq_true rfl, Nat.le_of_ble_eq_true rfl⟩ ⟨Nat.le_of_ble_eq_true rfl, Nat.le_of_ble_eq_true rfl⟩ ⟨Nat.le_of_ble_eq_true rfl, Nat.le_of_ble_eq_true rfl⟩ dL_refuses_230 (fun g z H locs hs hP hD hS => ?_)
  refine lv_ldc (v := -7000001) C.hx C.hb C.hown (C.hT.use kk_L_90 args) dL_refuses_233 ?_
  refine lv_icmp_ne (tgt := 453) C.hx C.hb dL_refuses_235 (by decide) (fun c9 => absurd c9 (by decide +kernel)) (fun _ => ?_)
  refine lv_aload_n C.hx C.hb dL_refuses_238 rfl (lv_at hl 13 rfl) ?_
  refine lv_iconst (v := nI 1) C.hx C.hb dL_refuses_239 (by decide +kernel) ?_
  refine lv_iconst (v := nI 0) C.hx C.hb dL_refuses_240 (by decide +kernel) ?_
  refine lv_iload C.hx C.hb dL_refuses_241 (lv_at hl 0 rfl) ?_
  refine lv_iconst (v := nI 0) C.hx C.hb dL_refuses_243 (by decide +kernel) ?_
  refine lv_iconst (v := nI 0) C.hx C.hb dL_refuses_244 (by decide +kernel) ?_
  refine q_cR (w := 1) (p0 := nI 0) (p1 := nI 10) (p2 := nI 0) (p3 := nI 0) (r := -7000002) (c2 := 65) (s2 := 390) C hs hP hD hS (rr_rk C.htr (q_r_nI (by decide)) (by decide +kernel)) hl rfl (Nat.le_of_ble_eq_true rfl) ⟨Nat.le_of_ble_eq_true rfl, Nat.le_of_ble_eq_true rfl⟩ ⟨Nat.le_of_ble_eq_true rfl, Nat.le_of_ble_eq_true rfl⟩ ⟨Nat.le_of_ble_eq_true rfl, Nat.le_of_ble_eq_true rfl⟩ dL_refuses_245 (fun g z H locs hs hP hD hS => ?_)
  refine lv_ldc (v := -7000002) C.hx C.hb C.hown (C.hT.use kk_L_93 args) dL_refuses_248 ?_
  refine lv_icmp_ne (tgt := 453) C.hx C.hb dL_refuses_250 (by decide) (fun c9 => absurd c9 (by decide +kernel)) (fun _ => ?_)
  refine lv_aload_n C.hx C.hb dL_refuses_253 rfl (lv_at hl 13 rfl) ?_
  refine lv_iconst (v := nI 2) C.hx C.hb dL_refuses_254 (by decide +kernel) ?_
  refine lv_iload C.hx C.hb dL_refuses_255 (lv_at hl 1 rfl) ?_
  refine lv_iload C.hx C.hb dL_refuses_257 (lv_at hl 1 rfl) ?_
  refine lv_iconst (v := nI 1) C.hx C.hb dL_refuses_259 (by decide +kernel) ?_
  refine lv_iconst (v := nI 0) C.hx C.hb dL_refuses_260 (by decide +kernel) ?_
  refine q_cR (w := 2) (p0 := nI 8) (p1 := nI 8) (p2 := nI 1) (p3 := nI 0) (r := -7000001) (c2 := 66) (s2 := 396) C hs hP hD hS (rb_1 C.htr (notn (n := 8) (by decide))) hl rfl (Nat.le_of_ble_eq_true rfl) ⟨Nat.le_of_ble_eq_true rfl, Nat.le_of_ble_eq_true rfl⟩ ⟨Nat.le_of_ble_eq_true rfl, Nat.le_of_ble_eq_true rfl⟩ ⟨Nat.le_of_ble_eq_true rfl, Nat.le_of_ble_eq_true rfl⟩ dL_refuses_261 (fun g z H locs hs hP hD hS => ?_)
  refine lv_ldc (v := -7000001) C.hx C.hb C.hown (C.hT.use kk_L_90 args) dL_refuses_264 ?_
  refine lv_icmp_ne (tgt := 453) C.hx C.hb dL_refuses_266 (by decide) (fun c9 => absurd c9 (by decide +kernel)) (fun _ => ?_)
  exact kk g z H locs ls hs hP hD hS hl

set_option maxRecDepth 100000 in
set_option maxHeartbeats 4000000 in
theorem tf_29 {p : Program} {l : Launch} {e : Env} {s : State} {m : MethodId} {args : Array Value} {below : List Frame} {meth : Method} {c : Code} {D : va_G} {cA : ClassId} {A : Nat → Prop} {ad : Nat → Nat} {Q : State → Prop} {g0 : Nat → Nat → Int32} {a t b : Nat} (ha : a ≤ 16) (hb9 : b ≤ 40) (hab : 0 < a → 0 < b) (C : lcx p l s m c cL_refuses 16 D cA A) (kk : ∀ (g : Nat → Nat → Int32) (z : Nat → Nat) (H : Heap) (locs : List Loc) (ls : Array Slot), SR g0 a t b g z → va_P D vwCl (rlW cA ad g z) H → va_D A (rlW cA ad g z) → va_S A s.heap H locs → lv_has ls 16 [(11, .int (nI 10)), (10, .int (nI 8)), (9, .int (nI b)), (8, .int (nI a)), (7, .int (-2147483648)), (6, .int (-2147483648)), (5, .int (nI 1)), (12, .int (nI 1)), (13, .int (nI 20)), (15, .int (nI 1)), (14, .int (nI 1)), (4, .int (nI (dfO g0 a a))), (3, .int (nI 2147483647)), (0, .ref (ad 70)), (1, .int (nI a)), (2, .int (nI b))] → W p l e rm_Lr s m args below meth c H locs 73 438 Q (F0 m 376 ls [])) : ∀ (g : Nat → Nat → Int32) (z : Nat → Nat) (H : Heap) (locs : List Loc) (ls : Array Slot), SR g0 a t b g z → va_P D vwCl (rlW cA ad g z) H → va_D A (rlW cA ad g z) → va_S A s.heap H locs → lv_has ls 16 [(11, .int (nI 10)), (10, .int (nI 8)), (9, .int (nI b)), (8, .int (nI a)), (7, .int (-2147483648)), (6, .int (-2147483648)), (5, .int (nI 1)), (12, .int (nI 1)), (13, .int (nI 20)), (15, .int (nI 1)), (14, .int (nI 1)), (4, .int (nI (dfO g0 a a))), (3, .int (nI 2147483647)), (0, .ref (ad 70)), (1, .int (nI a)), (2, .int (nI b))] → W p l e rm_Lr s m args below meth c H locs 66 396 Q (F0 m 269 ls []) := by
  intro g z H locs ls hs hP hD hS hl
  refine lv_aload_n C.hx C.hb dL_refuses_269 rfl (lv_at hl 13 rfl) ?_
  refine lv_iconst (v := nI 2) C.hx C.hb dL_refuses_270 (by decide +kernel) ?_
  refine lv_iconst (v := nI 0) C.hx C.hb dL_refuses_271 (by decide +kernel) ?_
  refine lv_iload C.hx C.hb dL_refuses_272 (lv_at hl 1 rfl) ?_
  refine lv_iconst (v := nI 1) C.hx C.hb dL_refuses_274 (by decide +kernel) ?_
  refine lv_iconst (v := nI 0) C.hx C.hb dL_refuses_275 (by decide +kernel) ?_
  refine q_cR (w := 2) (p0 := nI 0) (p1 := nI 8) (p2 := nI 1) (p3 := nI 0) (r := -7000001) (c2 := 67) (s2 := 402) C hs hP hD hS (rb_2 C.htr (q_r_nI (by decide)) (notn (n := 8) (by decide))) hl rfl (Nat.le_of_ble_eq_true rfl) ⟨Nat.le_of_ble_eq_true rfl, Nat.le_of_ble_eq_true rfl⟩ ⟨Nat.le_of_ble_eq_true rfl, Nat.le_of_ble_eq_true rfl⟩ ⟨Nat.le_of_ble_eq_true rfl, Nat.le_of_ble_eq_true rfl⟩ dL_refuses_276 (fun g z H locs hs hP hD hS => ?_)
  refine lv_ldc (v := -7000001) C.hx C.hb C.hown (C.hT.use kk_L_90 args) dL_refuses_279 ?_
  refine lv_icmp_ne (tgt := 453) C.hx C.hb dL_refuses_281 (by decide) (fun c9 => absurd c9 (by decide +kernel)) (fun _ => ?_)
  refine lv_aload_n C.hx C.hb dL_refuses_284 rfl (lv_at hl 13 rfl) ?_
  refine lv_iconst (v := nI 2) C.hx C.hb dL_refuses_285 (by decide +kernel) ?_
  refine lv_iconst (v := nI 3) C.hx C.hb dL_refuses_286 (by decide +kernel) ?_
  refine lv_iconst (v := nI 3) C.hx C.hb dL_refuses_287 (by decide +kernel) ?_
  refine lv_iconst (v := nI 1) C.hx C.hb dL_refuses_288 (by decide +kernel) ?_
  refine lv_iconst (v := nI 0) C.hx C.hb dL_refuses_289 (by decide +kernel) ?_
  refine q_cR (w := 2) (p0 := nI 3) (p1 := nI 3) (p2 := nI 1) (p3 := nI 0) (r := -7000002) (c2 := 68) (s2 := 408) C hs hP hD hS (rb_3 C.htr (q_r_nI (by decide))) hl rfl (Nat.le_of_ble_eq_true rfl) ⟨Nat.le_of_ble_eq_true rfl, Nat.le_of_ble_eq_true rfl⟩ ⟨Nat.le_of_ble_eq_true rfl, Nat.le_of_ble_eq_true rfl⟩ ⟨Nat.le_of_ble_eq_true rfl, Nat.le_of_ble_eq_true rfl⟩ dL_refuses_290 (fun g z H locs hs hP hD hS => ?_)
  refine lv_ldc (v := -7000002) C.hx C.hb C.hown (C.hT.use kk_L_93 args) dL_refuses_293 ?_
  refine lv_icmp_ne (tgt := 453) C.hx C.hb dL_refuses_295 (by decide) (fun c9 => absurd c9 (by decide +kernel)) (fun _ => ?_)
  refine lv_aload_n C.hx C.hb dL_refuses_298 rfl (lv_at hl 13 rfl) ?_
  refine lv_iconst (v := nI 4) C.hx C.hb dL_refuses_299 (by decide +kernel) ?_
  refine lv_iload C.hx C.hb dL_refuses_300 (lv_at hl 3 rfl) ?_
  refine lv_iconst (v := nI 5) C.hx C.hb dL_refuses_302 (by decide +kernel) ?_
  refine lv_iconst (v := nI 4) C.hx C.hb dL_refuses_303 (by decide +kernel) ?_
  refine lv_iconst (v := nI 0) C.hx C.hb dL_refuses_304 (by decide +kernel) ?_
  refine q_cR (w := 4) (p0 := nI a) (p1 := nI 5) (p2 := nI 4) (p3 := nI 0) (r := -7000001) (c2 := 69) (s2 := 414) C hs hP hD hS (ri_find C.htr (notn (by omega))) hl rfl (Nat.le_of_ble_eq_true rfl) ⟨Nat.le_of_ble_eq_true rfl, Nat.le_of_ble_eq_true rfl⟩ ⟨Nat.le_of_ble_eq_true rfl, Nat.le_of_ble_eq_true rfl⟩ ⟨Nat.le_of_ble_eq_true rfl, Nat.le_of_ble_eq_true rfl⟩ dL_refuses_305 (fun g z H locs hs hP hD hS => ?_)
  refine lv_ldc (v := -7000001) C.hx C.hb C.hown (C.hT.use kk_L_90 args) dL_refuses_308 ?_
  refine lv_icmp_ne (tgt := 453) C.hx C.hb dL_refuses_310 (by decide) (fun c9 => absurd c9 (by decide +kernel)) (fun _ => ?_)
  refine lv_aload_n C.hx C.hb dL_refuses_313 rfl (lv_at hl 13 rfl) ?_
  refine lv_iconst (v := nI 5) C.hx C.hb dL_refuses_314 (by decide +kernel) ?_
  refine lv_iload C.hx C.hb dL_refuses_315 (lv_at hl 3 rfl) ?_
  refine lv_iconst (v := nI 5) C.hx C.hb dL_refuses_317 (by decide +kernel) ?_
  refine lv_iconst (v := nI 4) C.hx C.hb dL_refuses_318 (by decide +kernel) ?_
  refine lv_iconst (v := nI 0) C.hx C.hb dL_refuses_319 (by decide +kernel) ?_
  refine q_cR (w := 5) (p0 := nI a) (p1 := nI 5) (p2 := nI 4) (p3 := nI 0) (r := -7000001) (c2 := 70) (s2 := 420) C hs hP hD hS (ri_wouldMove C.htr (notn (by omega))) hl rfl (Nat.le_of_ble_eq_true rfl) ⟨Nat.le_of_ble_eq_true rfl, Nat.le_of_ble_eq_true rfl⟩ ⟨Nat.le_of_ble_eq_true rfl, Nat.le_of_ble_eq_true rfl⟩ ⟨Nat.le_of_ble_eq_true rfl, Nat.le_of_ble_eq_true rfl⟩ dL_refuses_320 (fun g z H locs hs hP hD hS => ?_)
  refine lv_ldc (v := -7000001) C.hx C.hb C.hown (C.hT.use kk_L_90 args) dL_refuses_323 ?_
  refine lv_icmp_ne (tgt := 453) C.hx C.hb dL_refuses_325 (by decide) (fun c9 => absurd c9 (by decide +kernel)) (fun _ => ?_)
  refine lv_aload_n C.hx C.hb dL_refuses_328 rfl (lv_at hl 13 rfl) ?_
  refine lv_bipush (v := nI 17) C.hx C.hb dL_refuses_329 (by decide +kernel) ?_
  refine lv_iload C.hx C.hb dL_refuses_331 (lv_at hl 2 rfl) ?_
  refine lv_iconst (v := nI 0) C.hx C.hb dL_refuses_333 (by decide +kernel) ?_
  refine lv_iconst (v := nI 0) C.hx C.hb dL_refuses_334 (by decide +kernel) ?_
  refine lv_iconst (v := nI 0) C.hx C.hb dL_refuses_335 (by decide +kernel) ?_
  refine q_cR (w := 17) (p0 := nI b) (p1 := nI 0) (p2 := nI 0) (p3 := nI 0) (r := -7000001) (c2 := 71) (s2 := 426) C hs hP hD hS (ri_careerAt C.htr (notn (by omega))) hl rfl (Nat.le_of_ble_eq_true rfl) ⟨Nat.le_of_ble_eq_true rfl, Nat.le_of_ble_eq_true rfl⟩ ⟨Nat.le_of_ble_eq_true rfl, Nat.le_of_ble_eq_true rfl⟩ ⟨Nat.le_of_ble_eq_true rfl, Nat.le_of_ble_eq_true rfl⟩ dL_refuses_336 (fun g z H locs hs hP hD hS => ?_)
  refine lv_ldc (v := -7000001) C.hx C.hb C.hown (C.hT.use kk_L_90 args) dL_refuses_339 ?_
  refine lv_icmp_ne (tgt := 453) C.hx C.hb dL_refuses_341 (by decide) (fun c9 => absurd c9 (by decide +kernel)) (fun _ => ?_)
  refine lv_aload_n C.hx C.hb dL_refuses_344 rfl (lv_at hl 13 rfl) ?_
  refine lv_bipush (v := nI 20) C.hx C.hb dL_refuses_345 (by decide +kernel) ?_
  refine lv_iload C.hx C.hb dL_refuses_347 (lv_at hl 2 rfl) ?_
  refine lv_iconst (v := nI 0) C.hx C.hb dL_refuses_349 (by decide +kernel) ?_
  refine lv_iconst (v := nI 0) C.hx C.hb dL_refuses_350 (by decide +kernel) ?_
  refine lv_iconst (v := nI 0) C.hx C.hb dL_refuses_351 (by decide +kernel) ?_
  refine q_cR (w := 20) (p0 := nI b) (p1 := nI 0) (p2 := nI 0) (p3 := nI 0) (r := -7000001) (c2 := 72) (s2 := 432) C hs hP hD hS (ri_degree C.htr (notn (by omega))) hl rfl (Nat.le_of_ble_eq_true rfl) ⟨Nat.le_of_ble_eq_true rfl, Nat.le_of_ble_eq_true rfl⟩ ⟨Nat.le_of_ble_eq_true rfl, Nat.le_of_ble_eq_true rfl⟩ ⟨Nat.le_of_ble_eq_true rfl, Nat.le_of_ble_eq_true rfl⟩ dL_refuses_352 (fun g z H locs hs hP hD hS => ?_)
  refine lv_ldc (v := -7000001) C.hx C.hb C.hown (C.hT.use kk_L_90 args) dL_refuses_355 ?_
  refine lv_icmp_ne (tgt := 453) C.hx C.hb dL_refuses_357 (by decide) (fun c9 => absurd c9 (by decide +kernel)) (fun _ => ?_)
  refine lv_aload_n C.hx C.hb dL_refuses_360 rfl (lv_at hl 13 rfl) ?_
  refine lv_bipush (v := nI 20) C.hx C.hb dL_refuses_361 (by decide +kernel) ?_
  refine lv_iconst (v := nI 0) C.hx C.hb dL_refuses_363 (by decide +kernel) ?_
  refine lv_iload C.hx C.hb dL_refuses_364 (lv_at hl 2 rfl) ?_
  refine lv_iconst (v := nI 0) C.hx C.hb dL_refuses_366 (by decide +kernel) ?_
  refine lv_iconst (v := nI 0) C.hx C.hb dL_refuses_367 (by decide +kernel) ?_
  refine q_cR (w := 20) (p0 := nI 0) (p1 := nI b) (p2 := nI 0) (p3 := nI 0) (r := -7000001) (c2 := 73) (s2 := 438) C hs hP hD hS (rj_degree C.htr (notn (by omega))) hl rfl (Nat.le_of_ble_eq_true rfl) ⟨Nat.le_of_ble_eq_true rfl, Nat.le_of_ble_eq_true rfl⟩ ⟨Nat.le_of_ble_eq_true rfl, Nat.le_of_ble_eq_true rfl⟩ ⟨Nat.le_of_ble_eq_true rfl, Nat.le_of_ble_eq_true rfl⟩ dL_refuses_368 (fun g z H locs hs hP hD hS => ?_)
  refine lv_ldc (v := -7000001) C.hx C.hb C.hown (C.hT.use kk_L_90 args) dL_refuses_371 ?_
  refine lv_icmp_ne (tgt := 453) C.hx C.hb dL_refuses_373 (by decide) (fun c9 => absurd c9 (by decide +kernel)) (fun _ => ?_)
  exact kk g z H locs ls hs hP hD hS hl

set_option maxRecDepth 100000 in
set_option maxHeartbeats 4000000 in
theorem tf_30 {p : Program} {l : Launch} {e : Env} {s : State} {m : MethodId} {args : Array Value} {below : List Frame} {meth : Method} {c : Code} {D : va_G} {cA : ClassId} {A : Nat → Prop} {ad : Nat → Nat} {Q : State → Prop} {g0 : Nat → Nat → Int32} {a t b : Nat} (ha : a ≤ 16) (hb9 : b ≤ 40) (hab : 0 < a → 0 < b) (C : lcx p l s m c cL_refuses 16 D cA A) (kk : ∀ (g : Nat → Nat → Int32) (z : Nat → Nat) (H : Heap) (locs : List Loc) (ls : Array Slot), SR g0 a t b g z → va_P D vwCl (rlW cA ad g z) H → va_D A (rlW cA ad g z) → va_S A s.heap H locs → lv_has ls 16 [(15, .int (nI 1)), (14, .int (nI 1)), (13, .int (nI 3)), (12, .int (nI 1)), (11, .int (nI 10)), (10, .int (nI 8)), (9, .int (nI b)), (8, .int (nI a)), (7, .int (-2147483648)), (6, .int (-2147483648)), (5, .int (nI 1)), (4, .int (nI (dfO g0 a a))), (3, .int (nI 2147483647)), (0, .ref (ad 70)), (1, .int (nI a)), (2, .int (nI b))] → W p l e rm_Lr s m args below meth c H locs 76 456 Q (F0 m 538 ls [])) : ∀ (g : Nat → Nat → Int32) (z : Nat → Nat) (H : Heap) (locs : List Loc) (ls : Array Slot), SR g0 a t b g z → va_P D vwCl (rlW cA ad g z) H → va_D A (rlW cA ad g z) → va_S A s.heap H locs → lv_has ls 16 [(11, .int (nI 10)), (10, .int (nI 8)), (9, .int (nI b)), (8, .int (nI a)), (7, .int (-2147483648)), (6, .int (-2147483648)), (5, .int (nI 1)), (12, .int (nI 1)), (13, .int (nI 20)), (15, .int (nI 1)), (14, .int (nI 1)), (4, .int (nI (dfO g0 a a))), (3, .int (nI 2147483647)), (0, .ref (ad 70)), (1, .int (nI a)), (2, .int (nI b))] → W p l e rm_Lr s m args below meth c H locs 73 438 Q (F0 m 376 ls []) := by
  intro g z H locs ls hs hP hD hS hl
  refine lv_aload_n C.hx C.hb dL_refuses_376 rfl (lv_at hl 13 rfl) ?_
  refine lv_bipush (v := nI 21) C.hx C.hb dL_refuses_377 (by decide +kernel) ?_
  refine lv_iload C.hx C.hb dL_refuses_379 (lv_at hl 6 rfl) ?_
  refine lv_iconst (v := nI 1) C.hx C.hb dL_refuses_381 (by decide +kernel) ?_
  refine lv_icmp_ne (tgt := 391) C.hx C.hb dL_refuses_382 (by decide) (fun c9 => absurd c9 (by decide +kernel)) (fun _ => ?_)
  refine lv_iconst (v := nI 1) C.hx C.hb dL_refuses_385 (by decide +kernel) ?_
  refine lv_iload_n C.hx C.hb dL_refuses_386 rfl (lv_at hl 14 rfl) ?_
  refine lv_ishl C.hx C.hb dL_refuses_387 ?_
  refine lv_goto (tgt := 393) C.hx C.hb dL_refuses_388 (by decide) ?_
  refine lv_iconst (v := nI 0) C.hx C.hb dL_refuses_393 (by decide +kernel) ?_
  refine lv_iconst (v := nI 0) C.hx C.hb dL_refuses_394 (by decide +kernel) ?_
  refine lv_iconst (v := nI 0) C.hx C.hb dL_refuses_395 (by decide +kernel) ?_
  refine q_cR (w := 21) (p0 := nI 1 <<< (nI a &&& 31)) (p1 := nI 0) (p2 := nI 0) (p3 := nI 0) (r := -7000002) (c2 := 74) (s2 := 444) C hs hP hD hS (rt_best C.htr (shA a ha)) hl rfl (Nat.le_of_ble_eq_true rfl) ⟨Nat.le_of_ble_eq_true rfl, Nat.le_of_ble_eq_true rfl⟩ ⟨Nat.le_of_ble_eq_true rfl, Nat.le_of_ble_eq_true rfl⟩ ⟨Nat.le_of_ble_eq_true rfl, Nat.le_of_ble_eq_true rfl⟩ dL_refuses_396 (fun g z H locs hs hP hD hS => ?_)
  refine lv_ldc (v := -7000002) C.hx C.hb C.hown (C.hT.use kk_L_93 args) dL_refuses_399 ?_
  refine lv_icmp_ne (tgt := 453) C.hx C.hb dL_refuses_401 (by decide) (fun c9 => absurd c9 (by decide +kernel)) (fun _ => ?_)
  refine lv_aload_n C.hx C.hb dL_refuses_404 rfl (lv_at hl 13 rfl) ?_
  refine lv_bipush (v := nI 22) C.hx C.hb dL_refuses_405 (by decide +kernel) ?_
  refine lv_iload C.hx C.hb dL_refuses_407 (lv_at hl 6 rfl) ?_
  refine lv_iconst (v := nI 1) C.hx C.hb dL_refuses_409 (by decide +kernel) ?_
  refine lv_icmp_ne (tgt := 419) C.hx C.hb dL_refuses_410 (by decide) (fun c9 => absurd c9 (by decide +kernel)) (fun _ => ?_)
  refine lv_iconst (v := nI 1) C.hx C.hb dL_refuses_413 (by decide +kernel) ?_
  refine lv_iload_n C.hx C.hb dL_refuses_414 rfl (lv_at hl 14 rfl) ?_
  refine lv_ishl C.hx C.hb dL_refuses_415 ?_
  refine lv_goto (tgt := 421) C.hx C.hb dL_refuses_416 (by decide) ?_
  refine lv_iconst (v := nI 0) C.hx C.hb dL_refuses_421 (by decide +kernel) ?_
  refine lv_iconst (v := nI 0) C.hx C.hb dL_refuses_422 (by decide +kernel) ?_
  refine lv_iconst (v := nI 0) C.hx C.hb dL_refuses_423 (by decide +kernel) ?_
  refine q_cR (w := 22) (p0 := nI 1 <<< (nI a &&& 31)) (p1 := nI 0) (p2 := nI 0) (p3 := nI 0) (r := -7000002) (c2 := 75) (s2 := 450) C hs hP hD hS (rt_bestAnew C.htr (shA a ha)) hl rfl (Nat.le_of_ble_eq_true rfl) ⟨Nat.le_of_ble_eq_true rfl, Nat.le_of_ble_eq_true rfl⟩ ⟨Nat.le_of_ble_eq_true rfl, Nat.le_of_ble_eq_true rfl⟩ ⟨Nat.le_of_ble_eq_true rfl, Nat.le_of_ble_eq_true rfl⟩ dL_refuses_424 (fun g z H locs hs hP hD hS => ?_)
  refine lv_ldc (v := -7000002) C.hx C.hb C.hown (C.hT.use kk_L_93 args) dL_refuses_427 ?_
  refine lv_icmp_ne (tgt := 453) C.hx C.hb dL_refuses_429 (by decide) (fun c9 => absurd c9 (by decide +kernel)) (fun _ => ?_)
  refine lv_aload_n C.hx C.hb dL_refuses_432 rfl (lv_at hl 13 rfl) ?_
  refine lv_bipush (v := nI 23) C.hx C.hb dL_refuses_433 (by decide +kernel) ?_
  refine lv_iload C.hx C.hb dL_refuses_435 (lv_at hl 3 rfl) ?_
  refine lv_bipush (v := nI 99) C.hx C.hb dL_refuses_437 (by decide +kernel) ?_
  refine lv_iconst (v := nI 0) C.hx C.hb dL_refuses_439 (by decide +kernel) ?_
  refine lv_iconst (v := nI 0) C.hx C.hb dL_refuses_440 (by decide +kernel) ?_
  refine q_cR (w := 23) (p0 := nI a) (p1 := nI 99) (p2 := nI 0) (p3 := nI 0) (r := -7000001) (c2 := 76) (s2 := 456) C hs hP hD hS (ri_rival C.htr (notn (by omega))) hl rfl (Nat.le_of_ble_eq_true rfl) ⟨Nat.le_of_ble_eq_true rfl, Nat.le_of_ble_eq_true rfl⟩ ⟨Nat.le_of_ble_eq_true rfl, Nat.le_of_ble_eq_true rfl⟩ ⟨Nat.le_of_ble_eq_true rfl, Nat.le_of_ble_eq_true rfl⟩ dL_refuses_441 (fun g z H locs hs hP hD hS => ?_)
  refine lv_ldc (v := -7000001) C.hx C.hb C.hown (C.hT.use kk_L_90 args) dL_refuses_444 ?_
  refine lv_icmp_ne (tgt := 453) C.hx C.hb dL_refuses_446 (by decide) (fun c9 => absurd c9 (by decide +kernel)) (fun _ => ?_)
  refine lv_iconst (v := nI 1) C.hx C.hb dL_refuses_449 (by decide +kernel) ?_
  refine lv_goto (tgt := 454) C.hx C.hb dL_refuses_450 (by decide) ?_
  refine lv_istore (lv' := [(12, .int (nI 1)), (11, .int (nI 10)), (10, .int (nI 8)), (9, .int (nI b)), (8, .int (nI a)), (7, .int (-2147483648)), (6, .int (-2147483648)), (5, .int (nI 1)), (13, .int (nI 20)), (15, .int (nI 1)), (14, .int (nI 1)), (4, .int (nI (dfO g0 a a))), (3, .int (nI 2147483647)), (0, .ref (ad 70)), (1, .int (nI a)), (2, .int (nI b))]) C.hx C.hb dL_refuses_454 hl (by decide) rfl (fun ls hl => ?_)
  refine lv_iconst (v := nI 3) C.hx C.hb dL_refuses_456 (by decide +kernel) ?_
  refine lv_istore (lv' := [(13, .int (nI 3)), (12, .int (nI 1)), (11, .int (nI 10)), (10, .int (nI 8)), (9, .int (nI b)), (8, .int (nI a)), (7, .int (-2147483648)), (6, .int (-2147483648)), (5, .int (nI 1)), (15, .int (nI 1)), (14, .int (nI 1)), (4, .int (nI (dfO g0 a a))), (3, .int (nI 2147483647)), (0, .ref (ad 70)), (1, .int (nI a)), (2, .int (nI b))]) C.hx C.hb dL_refuses_457 hl (by decide) rfl (fun ls hl => ?_)
  refine lv_iload C.hx C.hb dL_refuses_459 (lv_at hl 0 rfl) ?_
  refine lv_bipush (v := nI 20) C.hx C.hb dL_refuses_461 (by decide +kernel) ?_
  refine lv_icmp_ge (tgt := 687) C.hx C.hb dL_refuses_463 (by decide) (fun c9 => absurd c9 (by decide +kernel)) (fun _ => ?_)
  refine lv_iload C.hx C.hb dL_refuses_466 (lv_at hl 1 rfl) ?_
  refine lv_if_eq (tgt := 687) C.hx C.hb dL_refuses_468 (by decide) (fun c9 => absurd c9 (by decide +kernel)) (fun _ => ?_)
  refine lv_iload C.hx C.hb dL_refuses_471 (lv_at hl 0 rfl) ?_
  refine lv_iconst (v := nI 4) C.hx C.hb dL_refuses_473 (by decide +kernel) ?_
  refine lv_icmp_lt (tgt := 497) C.hx C.hb dL_refuses_474 (by decide) (fun _ => ?_) (fun c9 => absurd c9 (by decide +kernel))
  refine lv_iconst (v := nI 1) C.hx C.hb dL_refuses_497 (by decide +kernel) ?_
  refine lv_goto (tgt := 502) C.hx C.hb dL_refuses_498 (by decide) ?_
  refine lv_istore (lv' := [(14, .int (nI 1)), (13, .int (nI 3)), (12, .int (nI 1)), (11, .int (nI 10)), (10, .int (nI 8)), (9, .int (nI b)), (8, .int (nI a)), (7, .int (-2147483648)), (6, .int (-2147483648)), (5, .int (nI 1)), (15, .int (nI 1)), (4, .int (nI (dfO g0 a a))), (3, .int (nI 2147483647)), (0, .ref (ad 70)), (1, .int (nI a)), (2, .int (nI b))]) C.hx C.hb dL_refuses_502 hl (by decide) rfl (fun ls hl => ?_)
  refine lv_iload C.hx C.hb dL_refuses_504 (lv_at hl 1 rfl) ?_
  refine lv_iconst (v := nI 3) C.hx C.hb dL_refuses_506 (by decide +kernel) ?_
  refine lv_icmp_eq (tgt := 531) C.hx C.hb dL_refuses_507 (by decide) (fun _ => ?_) (fun c9 => absurd c9 (by decide +kernel))
  refine lv_iconst (v := nI 1) C.hx C.hb dL_refuses_531 (by decide +kernel) ?_
  refine lv_goto (tgt := 536) C.hx C.hb dL_refuses_532 (by decide) ?_
  refine lv_istore (lv' := [(15, .int (nI 1)), (14, .int (nI 1)), (13, .int (nI 3)), (12, .int (nI 1)), (11, .int (nI 10)), (10, .int (nI 8)), (9, .int (nI b)), (8, .int (nI a)), (7, .int (-2147483648)), (6, .int (-2147483648)), (5, .int (nI 1)), (4, .int (nI (dfO g0 a a))), (3, .int (nI 2147483647)), (0, .ref (ad 70)), (1, .int (nI a)), (2, .int (nI b))]) C.hx C.hb dL_refuses_536 hl (by decide) rfl (fun ls hl => ?_)
  exact kk g z H locs ls hs hP hD hS hl

set_option maxRecDepth 100000 in
set_option maxHeartbeats 4000000 in
theorem tf_31 {p : Program} {l : Launch} {e : Env} {s : State} {m : MethodId} {args : Array Value} {below : List Frame} {meth : Method} {c : Code} {D : va_G} {cA : ClassId} {A : Nat → Prop} {ad : Nat → Nat} {Q : State → Prop} {g0 : Nat → Nat → Int32} {a t b : Nat} (ha : a ≤ 16) (hb9 : b ≤ 40) (hab : 0 < a → 0 < b) (C : lcx p l s m c cL_refuses 16 D cA A) (kk : ∀ (g : Nat → Nat → Int32) (z : Nat → Nat) (H : Heap) (locs : List Loc) (ls : Array Slot), SR g0 a t b g z → va_P D vwCl (rlW cA ad g z) H → va_D A (rlW cA ad g z) → va_S A s.heap H locs → lv_has ls 16 [(12, .int (nI 1)), (15, .int (nI 1)), (14, .int (nI 1)), (13, .int (nI 3)), (11, .int (nI 10)), (10, .int (nI 8)), (9, .int (nI b)), (8, .int (nI a)), (7, .int (-2147483648)), (6, .int (-2147483648)), (5, .int (nI 1)), (4, .int (nI (dfO g0 a a))), (3, .int (nI 2147483647)), (0, .ref (ad 70)), (1, .int (nI a)), (2, .int (nI b))] → W p l e rm_Lr s m args below meth c H locs 80 480 Q (F0 m 630 ls [])) : ∀ (g : Nat → Nat → Int32) (z : Nat → Nat) (H : Heap) (locs : List Loc) (ls : Array Slot), SR g0 a t b g z → va_P D vwCl (rlW cA ad g z) H → va_D A (rlW cA ad g z) → va_S A s.heap H locs → lv_has ls 16 [(15, .int (nI 1)), (14, .int (nI 1)), (13, .int (nI 3)), (12, .int (nI 1)), (11, .int (nI 10)), (10, .int (nI 8)), (9, .int (nI b)), (8, .int (nI a)), (7, .int (-2147483648)), (6, .int (-2147483648)), (5, .int (nI 1)), (4, .int (nI (dfO g0 a a))), (3, .int (nI 2147483647)), (0, .ref (ad 70)), (1, .int (nI a)), (2, .int (nI b))] → W p l e rm_Lr s m args below meth c H locs 76 456 Q (F0 m 538 ls []) := by
  intro g z H locs ls hs hP hD hS hl
  refine lv_iload C.hx C.hb dL_refuses_538 (lv_at hl 1 rfl) ?_
  refine lv_if_eq (tgt := 567) C.hx C.hb dL_refuses_540 (by decide) (fun c9 => absurd c9 (by decide +kernel)) (fun _ => ?_)
  refine lv_aload_n C.hx C.hb dL_refuses_543 rfl (lv_at hl 13 rfl) ?_
  refine lv_iload C.hx C.hb dL_refuses_544 (lv_at hl 2 rfl) ?_
  refine lv_iload C.hx C.hb dL_refuses_546 (lv_at hl 7 rfl) ?_
  refine lv_iconst (v := nI 0) C.hx C.hb dL_refuses_548 (by decide +kernel) ?_
  refine lv_bipush (v := nI 99) C.hx C.hb dL_refuses_549 (by decide +kernel) ?_
  refine lv_iconst (v := nI 0) C.hx C.hb dL_refuses_551 (by decide +kernel) ?_
  refine q_cR (w := 3) (p0 := nI a) (p1 := nI 0) (p2 := nI 99) (p3 := nI 0) (r := -7000001) (c2 := 77) (s2 := 462) C hs hP hD hS (ri_ahead C.htr (notn (by omega))) hl rfl (Nat.le_of_ble_eq_true rfl) ⟨Nat.le_of_ble_eq_true rfl, Nat.le_of_ble_eq_true rfl⟩ ⟨Nat.le_of_ble_eq_true rfl, Nat.le_of_ble_eq_true rfl⟩ ⟨Nat.le_of_ble_eq_true rfl, Nat.le_of_ble_eq_true rfl⟩ dL_refuses_552 (fun g z H locs hs hP hD hS => ?_)
  refine lv_ldc (v := -7000001) C.hx C.hb C.hown (C.hT.use kk_L_90 args) dL_refuses_555 ?_
  refine lv_icmp_ne (tgt := 564) C.hx C.hb dL_refuses_557 (by decide) (fun c9 => absurd c9 (by decide +kernel)) (fun _ => ?_)
  refine lv_iconst (v := nI 1) C.hx C.hb dL_refuses_560 (by decide +kernel) ?_
  refine lv_goto (tgt := 565) C.hx C.hb dL_refuses_561 (by decide) ?_
  refine lv_istore (lv' := [(12, .int (nI 1)), (15, .int (nI 1)), (14, .int (nI 1)), (13, .int (nI 3)), (11, .int (nI 10)), (10, .int (nI 8)), (9, .int (nI b)), (8, .int (nI a)), (7, .int (-2147483648)), (6, .int (-2147483648)), (5, .int (nI 1)), (4, .int (nI (dfO g0 a a))), (3, .int (nI 2147483647)), (0, .ref (ad 70)), (1, .int (nI a)), (2, .int (nI b))]) C.hx C.hb dL_refuses_565 hl (by decide) rfl (fun ls hl => ?_)
  refine lv_iload C.hx C.hb dL_refuses_567 (lv_at hl 1 rfl) ?_
  refine lv_if_eq (tgt := 637) C.hx C.hb dL_refuses_569 (by decide) (fun c9 => absurd c9 (by decide +kernel)) (fun _ => ?_)
  refine lv_iload C.hx C.hb dL_refuses_572 (lv_at hl 0 rfl) ?_
  refine lv_if_eq (tgt := 634) C.hx C.hb dL_refuses_574 (by decide) (fun c9 => absurd c9 (by decide +kernel)) (fun _ => ?_)
  refine lv_aload_n C.hx C.hb dL_refuses_577 rfl (lv_at hl 13 rfl) ?_
  refine lv_iload C.hx C.hb dL_refuses_578 (lv_at hl 3 rfl) ?_
  refine lv_iconst (v := nI 0) C.hx C.hb dL_refuses_580 (by decide +kernel) ?_
  refine lv_iload C.hx C.hb dL_refuses_581 (lv_at hl 7 rfl) ?_
  refine lv_bipush (v := nI 99) C.hx C.hb dL_refuses_583 (by decide +kernel) ?_
  refine lv_iconst (v := nI 0) C.hx C.hb dL_refuses_585 (by decide +kernel) ?_
  refine q_cR (w := 3) (p0 := nI 0) (p1 := nI a) (p2 := nI 99) (p3 := nI 0) (r := -7000001) (c2 := 78) (s2 := 468) C hs hP hD hS (rj_ahead C.htr (notn (by omega))) hl rfl (Nat.le_of_ble_eq_true rfl) ⟨Nat.le_of_ble_eq_true rfl, Nat.le_of_ble_eq_true rfl⟩ ⟨Nat.le_of_ble_eq_true rfl, Nat.le_of_ble_eq_true rfl⟩ ⟨Nat.le_of_ble_eq_true rfl, Nat.le_of_ble_eq_true rfl⟩ dL_refuses_586 (fun g z H locs hs hP hD hS => ?_)
  refine lv_ldc (v := -7000001) C.hx C.hb C.hown (C.hT.use kk_L_90 args) dL_refuses_589 ?_
  refine lv_icmp_ne (tgt := 634) C.hx C.hb dL_refuses_591 (by decide) (fun c9 => absurd c9 (by decide +kernel)) (fun _ => ?_)
  refine lv_aload_n C.hx C.hb dL_refuses_594 rfl (lv_at hl 13 rfl) ?_
  refine lv_iload C.hx C.hb dL_refuses_595 (lv_at hl 3 rfl) ?_
  refine lv_iload C.hx C.hb dL_refuses_597 (lv_at hl 7 rfl) ?_
  refine lv_iload C.hx C.hb dL_refuses_599 (lv_at hl 7 rfl) ?_
  refine lv_iconst (v := nI 0) C.hx C.hb dL_refuses_601 (by decide +kernel) ?_
  refine lv_iconst (v := nI 0) C.hx C.hb dL_refuses_602 (by decide +kernel) ?_
  refine q_cR (w := 3) (p0 := nI a) (p1 := nI a) (p2 := nI 0) (p3 := nI 0) (r := -7000001) (c2 := 79) (s2 := 474) C hs hP hD hS (ri_ahead C.htr (notn (by omega))) hl rfl (Nat.le_of_ble_eq_true rfl) ⟨Nat.le_of_ble_eq_true rfl, Nat.le_of_ble_eq_true rfl⟩ ⟨Nat.le_of_ble_eq_true rfl, Nat.le_of_ble_eq_true rfl⟩ ⟨Nat.le_of_ble_eq_true rfl, Nat.le_of_ble_eq_true rfl⟩ dL_refuses_603 (fun g z H locs hs hP hD hS => ?_)
  refine lv_ldc (v := -7000001) C.hx C.hb C.hown (C.hT.use kk_L_90 args) dL_refuses_606 ?_
  refine lv_icmp_ne (tgt := 634) C.hx C.hb dL_refuses_608 (by decide) (fun c9 => absurd c9 (by decide +kernel)) (fun _ => ?_)
  refine lv_iload_n C.hx C.hb dL_refuses_611 rfl (lv_at hl 14 rfl) ?_
  refine lv_if_eq (tgt := 630) C.hx C.hb dL_refuses_612 (by decide) (fun c9 => ?_) (fun c9 => ?_)
  · refine W.widen (k := 80) (n := 480) (Nat.le_of_ble_eq_true rfl) (Nat.le_of_ble_eq_true rfl) ?_
    exact kk g z H locs ls hs hP hD hS hl
  · have ha0 : 0 < a := Nat.pos_of_ne_zero (fun q => c9 (by rw [q]; rfl))
    have hb0 : 0 < b := hab ha0
    refine lv_aload_n C.hx C.hb dL_refuses_615 rfl (lv_at hl 13 rfl) ?_
    refine lv_iload C.hx C.hb dL_refuses_616 (lv_at hl 3 rfl) ?_
    refine lv_iconst (v := nI 0) C.hx C.hb dL_refuses_618 (by decide +kernel) ?_
    refine lv_iconst (v := nI 0) C.hx C.hb dL_refuses_619 (by decide +kernel) ?_
    refine lv_iconst (v := nI 0) C.hx C.hb dL_refuses_620 (by decide +kernel) ?_
    refine lv_iconst (v := nI 0) C.hx C.hb dL_refuses_621 (by decide +kernel) ?_
    refine q_cR (w := 3) (p0 := nI 0) (p1 := nI 0) (p2 := nI 0) (p3 := nI 0) (r := -7000002) (c2 := 80) (s2 := 480) C hs hP hD hS (rs_ahead C.htr (q_r_nI (by omega))) hl rfl (Nat.le_of_ble_eq_true rfl) ⟨Nat.le_of_ble_eq_true rfl, Nat.le_of_ble_eq_true rfl⟩ ⟨Nat.le_of_ble_eq_true rfl, Nat.le_of_ble_eq_true rfl⟩ ⟨Nat.le_of_ble_eq_true rfl, Nat.le_of_ble_eq_true rfl⟩ dL_refuses_622 (fun g z H locs hs hP hD hS => ?_)
    refine lv_ldc (v := -7000002) C.hx C.hb C.hown (C.hT.use kk_L_93 args) dL_refuses_625 ?_
    refine lv_icmp_ne (tgt := 634) C.hx C.hb dL_refuses_627 (by decide) (fun c9 => absurd c9 (by decide +kernel)) (fun _ => ?_)
    exact kk g z H locs ls hs hP hD hS hl

set_option maxRecDepth 100000 in
set_option maxHeartbeats 4000000 in
theorem tf_32 {p : Program} {l : Launch} {e : Env} {s : State} {m : MethodId} {args : Array Value} {below : List Frame} {meth : Method} {c : Code} {D : va_G} {cA : ClassId} {A : Nat → Prop} {ad : Nat → Nat} {Q : State → Prop} {g0 : Nat → Nat → Int32} {a t b : Nat} (ha : a ≤ 16) (hb9 : b ≤ 40) (hab : 0 < a → 0 < b) (C : lcx p l s m c cL_refuses 16 D cA A) (kk : ∀ (g : Nat → Nat → Int32) (z : Nat → Nat) (H : Heap) (locs : List Loc) (ls : Array Slot), SR g0 a t b g z → va_P D vwCl (rlW cA ad g z) H → va_D A (rlW cA ad g z) → va_S A s.heap H locs → lv_has ls 16 [(13, .int (nI 5)), (15, .int (nI 0)), (14, .int (nI 0)), (12, .int (nI 1)), (11, .int (nI 10)), (10, .int (nI 8)), (9, .int (nI b)), (8, .int (nI a)), (7, .int (-2147483648)), (6, .int (-2147483648)), (5, .int (nI 1)), (4, .int (nI (dfO g0 a a))), (3, .int (nI 2147483647)), (0, .ref (ad 70)), (1, .int (nI a)), (2, .int (nI b))] → W p l e rm_Lr s m args below meth c H locs 80 480 Q (F0 m 471 ls [])) : ∀ (g : Nat → Nat → Int32) (z : Nat → Nat) (H : Heap) (locs : List Loc) (ls : Array Slot), SR g0 a t b g z → va_P D vwCl (rlW cA ad g z) H → va_D A (rlW cA ad g z) → va_S A s.heap H locs → lv_has ls 16 [(12, .int (nI 1)), (15, .int (nI 1)), (14, .int (nI 1)), (13, .int (nI 3)), (11, .int (nI 10)), (10, .int (nI 8)), (9, .int (nI b)), (8, .int (nI a)), (7, .int (-2147483648)), (6, .int (-2147483648)), (5, .int (nI 1)), (4, .int (nI (dfO g0 a a))), (3, .int (nI 2147483647)), (0, .ref (ad 70)), (1, .int (nI a)), (2, .int (nI b))] → W p l e rm_Lr s m args below meth c H locs 80 480 Q (F0 m 630 ls []) := by
  intro g z H locs ls hs hP hD hS hl
  refine lv_iconst (v := nI 1) C.hx C.hb dL_refuses_630 (by decide +kernel) ?_
  refine lv_goto (tgt := 635) C.hx C.hb dL_refuses_631 (by decide) ?_
  refine lv_istore (lv' := [(12, .int (nI 1)), (15, .int (nI 1)), (14, .int (nI 1)), (13, .int (nI 3)), (11, .int (nI 10)), (10, .int (nI 8)), (9, .int (nI b)), (8, .int (nI a)), (7, .int (-2147483648)), (6, .int (-2147483648)), (5, .int (nI 1)), (4, .int (nI (dfO g0 a a))), (3, .int (nI 2147483647)), (0, .ref (ad 70)), (1, .int (nI a)), (2, .int (nI b))]) C.hx C.hb dL_refuses_635 hl (by decide) rfl (fun ls hl => ?_)
  refine lv_iload C.hx C.hb dL_refuses_637 (lv_at hl 3 rfl) ?_
  refine lv_bipush (v := nI 15) C.hx C.hb dL_refuses_639 (by decide +kernel) ?_
  refine lv_icmp_eq (tgt := 658) C.hx C.hb dL_refuses_641 (by decide) (fun c9 => absurd c9 (by decide +kernel)) (fun _ => ?_)
  refine lv_iload C.hx C.hb dL_refuses_644 (lv_at hl 3 rfl) ?_
  refine lv_bipush (v := nI 16) C.hx C.hb dL_refuses_646 (by decide +kernel) ?_
  refine lv_icmp_eq (tgt := 658) C.hx C.hb dL_refuses_648 (by decide) (fun c9 => absurd c9 (by decide +kernel)) (fun _ => ?_)
  refine lv_iload C.hx C.hb dL_refuses_651 (lv_at hl 3 rfl) ?_
  refine lv_bipush (v := nI 18) C.hx C.hb dL_refuses_653 (by decide +kernel) ?_
  refine lv_icmp_ne (tgt := 681) C.hx C.hb dL_refuses_655 (by decide) (fun _ => ?_) (fun c9 => absurd c9 (by decide +kernel))
  refine lv_iinc (v := nI 4) (lv' := [(13, .int (nI 4)), (12, .int (nI 1)), (15, .int (nI 1)), (14, .int (nI 1)), (11, .int (nI 10)), (10, .int (nI 8)), (9, .int (nI b)), (8, .int (nI a)), (7, .int (-2147483648)), (6, .int (-2147483648)), (5, .int (nI 1)), (4, .int (nI (dfO g0 a a))), (3, .int (nI 2147483647)), (0, .ref (ad 70)), (1, .int (nI a)), (2, .int (nI b))]) C.hx C.hb dL_refuses_681 hl (k := 3) rfl (by decide +kernel) (by decide) rfl (fun ls hl => ?_)
  refine lv_goto (tgt := 459) C.hx C.hb dL_refuses_684 (by decide) ?_
  refine lv_iload C.hx C.hb dL_refuses_459 (lv_at hl 0 rfl) ?_
  refine lv_bipush (v := nI 20) C.hx C.hb dL_refuses_461 (by decide +kernel) ?_
  refine lv_icmp_ge (tgt := 687) C.hx C.hb dL_refuses_463 (by decide) (fun c9 => absurd c9 (by decide +kernel)) (fun _ => ?_)
  refine lv_iload C.hx C.hb dL_refuses_466 (lv_at hl 1 rfl) ?_
  refine lv_if_eq (tgt := 687) C.hx C.hb dL_refuses_468 (by decide) (fun c9 => absurd c9 (by decide +kernel)) (fun _ => ?_)
  refine lv_iload C.hx C.hb dL_refuses_471 (lv_at hl 0 rfl) ?_
  refine lv_iconst (v := nI 4) C.hx C.hb dL_refuses_473 (by decide +kernel) ?_
  refine lv_icmp_lt (tgt := 497) C.hx C.hb dL_refuses_474 (by decide) (fun c9 => absurd c9 (by decide +kernel)) (fun _ => ?_)
  refine lv_iload C.hx C.hb dL_refuses_477 (lv_at hl 0 rfl) ?_
  refine lv_iconst (v := nI 5) C.hx C.hb dL_refuses_479 (by decide +kernel) ?_
  refine lv_icmp_le (tgt := 490) C.hx C.hb dL_refuses_480 (by decide) (fun _ => ?_) (fun c9 => absurd c9 (by decide +kernel))
  refine lv_iload C.hx C.hb dL_refuses_490 (lv_at hl 0 rfl) ?_
  refine lv_bipush (v := nI 19) C.hx C.hb dL_refuses_492 (by decide +kernel) ?_
  refine lv_icmp_ne (tgt := 501) C.hx C.hb dL_refuses_494 (by decide) (fun _ => ?_) (fun c9 => absurd c9 (by decide +kernel))
  refine lv_iconst (v := nI 0) C.hx C.hb dL_refuses_501 (by decide +kernel) ?_
  refine lv_istore (lv' := [(14, .int (nI 0)), (13, .int (nI 4)), (12, .int (nI 1)), (15, .int (nI 1)), (11, .int (nI 10)), (10, .int (nI 8)), (9, .int (nI b)), (8, .int (nI a)), (7, .int (-2147483648)), (6, .int (-2147483648)), (5, .int (nI 1)), (4, .int (nI (dfO g0 a a))), (3, .int (nI 2147483647)), (0, .ref (ad 70)), (1, .int (nI a)), (2, .int (nI b))]) C.hx C.hb dL_refuses_502 hl (by decide) rfl (fun ls hl => ?_)
  refine lv_iload C.hx C.hb dL_refuses_504 (lv_at hl 1 rfl) ?_
  refine lv_iconst (v := nI 3) C.hx C.hb dL_refuses_506 (by decide +kernel) ?_
  refine lv_icmp_eq (tgt := 531) C.hx C.hb dL_refuses_507 (by decide) (fun c9 => absurd c9 (by decide +kernel)) (fun _ => ?_)
  refine lv_iload C.hx C.hb dL_refuses_510 (lv_at hl 1 rfl) ?_
  refine lv_bipush (v := nI 7) C.hx C.hb dL_refuses_512 (by decide +kernel) ?_
  refine lv_icmp_le (tgt := 524) C.hx C.hb dL_refuses_514 (by decide) (fun _ => ?_) (fun c9 => absurd c9 (by decide +kernel))
  refine lv_iload C.hx C.hb dL_refuses_524 (lv_at hl 1 rfl) ?_
  refine lv_bipush (v := nI 19) C.hx C.hb dL_refuses_526 (by decide +kernel) ?_
  refine lv_icmp_ne (tgt := 535) C.hx C.hb dL_refuses_528 (by decide) (fun _ => ?_) (fun c9 => absurd c9 (by decide +kernel))
  refine lv_iconst (v := nI 0) C.hx C.hb dL_refuses_535 (by decide +kernel) ?_
  refine lv_istore (lv' := [(15, .int (nI 0)), (14, .int (nI 0)), (13, .int (nI 4)), (12, .int (nI 1)), (11, .int (nI 10)), (10, .int (nI 8)), (9, .int (nI b)), (8, .int (nI a)), (7, .int (-2147483648)), (6, .int (-2147483648)), (5, .int (nI 1)), (4, .int (nI (dfO g0 a a))), (3, .int (nI 2147483647)), (0, .ref (ad 70)), (1, .int (nI a)), (2, .int (nI b))]) C.hx C.hb dL_refuses_536 hl (by decide) rfl (fun ls hl => ?_)
  refine lv_iload C.hx C.hb dL_refuses_538 (lv_at hl 1 rfl) ?_
  refine lv_if_eq (tgt := 567) C.hx C.hb dL_refuses_540 (by decide) (fun _ => ?_) (fun c9 => absurd c9 (by decide +kernel))
  refine lv_iload C.hx C.hb dL_refuses_567 (lv_at hl 0 rfl) ?_
  refine lv_if_eq (tgt := 637) C.hx C.hb dL_refuses_569 (by decide) (fun _ => ?_) (fun c9 => absurd c9 (by decide +kernel))
  refine lv_iload C.hx C.hb dL_refuses_637 (lv_at hl 2 rfl) ?_
  refine lv_bipush (v := nI 15) C.hx C.hb dL_refuses_639 (by decide +kernel) ?_
  refine lv_icmp_eq (tgt := 658) C.hx C.hb dL_refuses_641 (by decide) (fun c9 => absurd c9 (by decide +kernel)) (fun _ => ?_)
  refine lv_iload C.hx C.hb dL_refuses_644 (lv_at hl 2 rfl) ?_
  refine lv_bipush (v := nI 16) C.hx C.hb dL_refuses_646 (by decide +kernel) ?_
  refine lv_icmp_eq (tgt := 658) C.hx C.hb dL_refuses_648 (by decide) (fun c9 => absurd c9 (by decide +kernel)) (fun _ => ?_)
  refine lv_iload C.hx C.hb dL_refuses_651 (lv_at hl 2 rfl) ?_
  refine lv_bipush (v := nI 18) C.hx C.hb dL_refuses_653 (by decide +kernel) ?_
  refine lv_icmp_ne (tgt := 681) C.hx C.hb dL_refuses_655 (by decide) (fun _ => ?_) (fun c9 => absurd c9 (by decide +kernel))
  refine lv_iinc (v := nI 5) (lv' := [(13, .int (nI 5)), (15, .int (nI 0)), (14, .int (nI 0)), (12, .int (nI 1)), (11, .int (nI 10)), (10, .int (nI 8)), (9, .int (nI b)), (8, .int (nI a)), (7, .int (-2147483648)), (6, .int (-2147483648)), (5, .int (nI 1)), (4, .int (nI (dfO g0 a a))), (3, .int (nI 2147483647)), (0, .ref (ad 70)), (1, .int (nI a)), (2, .int (nI b))]) C.hx C.hb dL_refuses_681 hl (k := 2) rfl (by decide +kernel) (by decide) rfl (fun ls hl => ?_)
  refine lv_goto (tgt := 459) C.hx C.hb dL_refuses_684 (by decide) ?_
  refine lv_iload C.hx C.hb dL_refuses_459 (lv_at hl 0 rfl) ?_
  refine lv_bipush (v := nI 20) C.hx C.hb dL_refuses_461 (by decide +kernel) ?_
  refine lv_icmp_ge (tgt := 687) C.hx C.hb dL_refuses_463 (by decide) (fun c9 => absurd c9 (by decide +kernel)) (fun _ => ?_)
  refine lv_iload C.hx C.hb dL_refuses_466 (lv_at hl 3 rfl) ?_
  refine lv_if_eq (tgt := 687) C.hx C.hb dL_refuses_468 (by decide) (fun c9 => absurd c9 (by decide +kernel)) (fun _ => ?_)
  exact kk g z H locs ls hs hP hD hS hl

set_option maxRecDepth 100000 in
set_option maxHeartbeats 4000000 in
theorem tf_33 {p : Program} {l : Launch} {e : Env} {s : State} {m : MethodId} {args : Array Value} {below : List Frame} {meth : Method} {c : Code} {D : va_G} {cA : ClassId} {A : Nat → Prop} {ad : Nat → Nat} {Q : State → Prop} {g0 : Nat → Nat → Int32} {a t b : Nat} (ha : a ≤ 16) (hb9 : b ≤ 40) (hab : 0 < a → 0 < b) (C : lcx p l s m c cL_refuses 16 D cA A) (kk : ∀ (g : Nat → Nat → Int32) (z : Nat → Nat) (H : Heap) (locs : List Loc) (ls : Array Slot), SR g0 a t b g z → va_P D vwCl (rlW cA ad g z) H → va_D A (rlW cA ad g z) → va_S A s.heap H locs → lv_has ls 16 [(14, .int (nI 1)), (13, .int (nI 6)), (15, .int (nI 0)), (12, .int (nI 1)), (11, .int (nI 10)), (10, .int (nI 8)), (9, .int (nI b)), (8, .int (nI a)), (7, .int (-2147483648)), (6, .int (-2147483648)), (5, .int (nI 1)), (4, .int (nI (dfO g0 a a))), (3, .int (nI 2147483647)), (0, .ref (ad 70)), (1, .int (nI a)), (2, .int (nI b))] → W p l e rm_Lr s m args below meth c H locs 80 480 Q (F0 m 535 ls [])) : ∀ (g : Nat → Nat → Int32) (z : Nat → Nat) (H : Heap) (locs : List Loc) (ls : Array Slot), SR g0 a t b g z → va_P D vwCl (rlW cA ad g z) H → va_D A (rlW cA ad g z) → va_S A s.heap H locs → lv_has ls 16 [(13, .int (nI 5)), (15, .int (nI 0)), (14, .int (nI 0)), (12, .int (nI 1)), (11, .int (nI 10)), (10, .int (nI 8)), (9, .int (nI b)), (8, .int (nI a)), (7, .int (-2147483648)), (6, .int (-2147483648)), (5, .int (nI 1)), (4, .int (nI (dfO g0 a a))), (3, .int (nI 2147483647)), (0, .ref (ad 70)), (1, .int (nI a)), (2, .int (nI b))] → W p l e rm_Lr s m args below meth c H locs 80 480 Q (F0 m 471 ls []) := by
  intro g z H locs ls hs hP hD hS hl
  refine lv_iload C.hx C.hb dL_refuses_471 (lv_at hl 0 rfl) ?_
  refine lv_iconst (v := nI 4) C.hx C.hb dL_refuses_473 (by decide +kernel) ?_
  refine lv_icmp_lt (tgt := 497) C.hx C.hb dL_refuses_474 (by decide) (fun c9 => absurd c9 (by decide +kernel)) (fun _ => ?_)
  refine lv_iload C.hx C.hb dL_refuses_477 (lv_at hl 0 rfl) ?_
  refine lv_iconst (v := nI 5) C.hx C.hb dL_refuses_479 (by decide +kernel) ?_
  refine lv_icmp_le (tgt := 490) C.hx C.hb dL_refuses_480 (by decide) (fun _ => ?_) (fun c9 => absurd c9 (by decide +kernel))
  refine lv_iload C.hx C.hb dL_refuses_490 (lv_at hl 0 rfl) ?_
  refine lv_bipush (v := nI 19) C.hx C.hb dL_refuses_492 (by decide +kernel) ?_
  refine lv_icmp_ne (tgt := 501) C.hx C.hb dL_refuses_494 (by decide) (fun _ => ?_) (fun c9 => absurd c9 (by decide +kernel))
  refine lv_iconst (v := nI 0) C.hx C.hb dL_refuses_501 (by decide +kernel) ?_
  refine lv_istore (lv' := [(14, .int (nI 0)), (13, .int (nI 5)), (15, .int (nI 0)), (12, .int (nI 1)), (11, .int (nI 10)), (10, .int (nI 8)), (9, .int (nI b)), (8, .int (nI a)), (7, .int (-2147483648)), (6, .int (-2147483648)), (5, .int (nI 1)), (4, .int (nI (dfO g0 a a))), (3, .int (nI 2147483647)), (0, .ref (ad 70)), (1, .int (nI a)), (2, .int (nI b))]) C.hx C.hb dL_refuses_502 hl (by decide) rfl (fun ls hl => ?_)
  refine lv_iload C.hx C.hb dL_refuses_504 (lv_at hl 1 rfl) ?_
  refine lv_iconst (v := nI 3) C.hx C.hb dL_refuses_506 (by decide +kernel) ?_
  refine lv_icmp_eq (tgt := 531) C.hx C.hb dL_refuses_507 (by decide) (fun c9 => absurd c9 (by decide +kernel)) (fun _ => ?_)
  refine lv_iload C.hx C.hb dL_refuses_510 (lv_at hl 1 rfl) ?_
  refine lv_bipush (v := nI 7) C.hx C.hb dL_refuses_512 (by decide +kernel) ?_
  refine lv_icmp_le (tgt := 524) C.hx C.hb dL_refuses_514 (by decide) (fun _ => ?_) (fun c9 => absurd c9 (by decide +kernel))
  refine lv_iload C.hx C.hb dL_refuses_524 (lv_at hl 1 rfl) ?_
  refine lv_bipush (v := nI 19) C.hx C.hb dL_refuses_526 (by decide +kernel) ?_
  refine lv_icmp_ne (tgt := 535) C.hx C.hb dL_refuses_528 (by decide) (fun _ => ?_) (fun c9 => absurd c9 (by decide +kernel))
  refine lv_iconst (v := nI 0) C.hx C.hb dL_refuses_535 (by decide +kernel) ?_
  refine lv_istore (lv' := [(15, .int (nI 0)), (14, .int (nI 0)), (13, .int (nI 5)), (12, .int (nI 1)), (11, .int (nI 10)), (10, .int (nI 8)), (9, .int (nI b)), (8, .int (nI a)), (7, .int (-2147483648)), (6, .int (-2147483648)), (5, .int (nI 1)), (4, .int (nI (dfO g0 a a))), (3, .int (nI 2147483647)), (0, .ref (ad 70)), (1, .int (nI a)), (2, .int (nI b))]) C.hx C.hb dL_refuses_536 hl (by decide) rfl (fun ls hl => ?_)
  refine lv_iload C.hx C.hb dL_refuses_538 (lv_at hl 1 rfl) ?_
  refine lv_if_eq (tgt := 567) C.hx C.hb dL_refuses_540 (by decide) (fun _ => ?_) (fun c9 => absurd c9 (by decide +kernel))
  refine lv_iload C.hx C.hb dL_refuses_567 (lv_at hl 0 rfl) ?_
  refine lv_if_eq (tgt := 637) C.hx C.hb dL_refuses_569 (by decide) (fun _ => ?_) (fun c9 => absurd c9 (by decide +kernel))
  refine lv_iload C.hx C.hb dL_refuses_637 (lv_at hl 2 rfl) ?_
  refine lv_bipush (v := nI 15) C.hx C.hb dL_refuses_639 (by decide +kernel) ?_
  refine lv_icmp_eq (tgt := 658) C.hx C.hb dL_refuses_641 (by decide) (fun c9 => absurd c9 (by decide +kernel)) (fun _ => ?_)
  refine lv_iload C.hx C.hb dL_refuses_644 (lv_at hl 2 rfl) ?_
  refine lv_bipush (v := nI 16) C.hx C.hb dL_refuses_646 (by decide +kernel) ?_
  refine lv_icmp_eq (tgt := 658) C.hx C.hb dL_refuses_648 (by decide) (fun c9 => absurd c9 (by decide +kernel)) (fun _ => ?_)
  refine lv_iload C.hx C.hb dL_refuses_651 (lv_at hl 2 rfl) ?_
  refine lv_bipush (v := nI 18) C.hx C.hb dL_refuses_653 (by decide +kernel) ?_
  refine lv_icmp_ne (tgt := 681) C.hx C.hb dL_refuses_655 (by decide) (fun _ => ?_) (fun c9 => absurd c9 (by decide +kernel))
  refine lv_iinc (v := nI 6) (lv' := [(13, .int (nI 6)), (15, .int (nI 0)), (14, .int (nI 0)), (12, .int (nI 1)), (11, .int (nI 10)), (10, .int (nI 8)), (9, .int (nI b)), (8, .int (nI a)), (7, .int (-2147483648)), (6, .int (-2147483648)), (5, .int (nI 1)), (4, .int (nI (dfO g0 a a))), (3, .int (nI 2147483647)), (0, .ref (ad 70)), (1, .int (nI a)), (2, .int (nI b))]) C.hx C.hb dL_refuses_681 hl (k := 2) rfl (by decide +kernel) (by decide) rfl (fun ls hl => ?_)
  refine lv_goto (tgt := 459) C.hx C.hb dL_refuses_684 (by decide) ?_
  refine lv_iload C.hx C.hb dL_refuses_459 (lv_at hl 0 rfl) ?_
  refine lv_bipush (v := nI 20) C.hx C.hb dL_refuses_461 (by decide +kernel) ?_
  refine lv_icmp_ge (tgt := 687) C.hx C.hb dL_refuses_463 (by decide) (fun c9 => absurd c9 (by decide +kernel)) (fun _ => ?_)
  refine lv_iload C.hx C.hb dL_refuses_466 (lv_at hl 3 rfl) ?_
  refine lv_if_eq (tgt := 687) C.hx C.hb dL_refuses_468 (by decide) (fun c9 => absurd c9 (by decide +kernel)) (fun _ => ?_)
  refine lv_iload C.hx C.hb dL_refuses_471 (lv_at hl 0 rfl) ?_
  refine lv_iconst (v := nI 4) C.hx C.hb dL_refuses_473 (by decide +kernel) ?_
  refine lv_icmp_lt (tgt := 497) C.hx C.hb dL_refuses_474 (by decide) (fun c9 => absurd c9 (by decide +kernel)) (fun _ => ?_)
  refine lv_iload C.hx C.hb dL_refuses_477 (lv_at hl 0 rfl) ?_
  refine lv_iconst (v := nI 5) C.hx C.hb dL_refuses_479 (by decide +kernel) ?_
  refine lv_icmp_le (tgt := 490) C.hx C.hb dL_refuses_480 (by decide) (fun c9 => absurd c9 (by decide +kernel)) (fun _ => ?_)
  refine lv_iload C.hx C.hb dL_refuses_483 (lv_at hl 0 rfl) ?_
  refine lv_bipush (v := nI 15) C.hx C.hb dL_refuses_485 (by decide +kernel) ?_
  refine lv_icmp_lt (tgt := 497) C.hx C.hb dL_refuses_487 (by decide) (fun _ => ?_) (fun c9 => absurd c9 (by decide +kernel))
  refine lv_iconst (v := nI 1) C.hx C.hb dL_refuses_497 (by decide +kernel) ?_
  refine lv_goto (tgt := 502) C.hx C.hb dL_refuses_498 (by decide) ?_
  refine lv_istore (lv' := [(14, .int (nI 1)), (13, .int (nI 6)), (15, .int (nI 0)), (12, .int (nI 1)), (11, .int (nI 10)), (10, .int (nI 8)), (9, .int (nI b)), (8, .int (nI a)), (7, .int (-2147483648)), (6, .int (-2147483648)), (5, .int (nI 1)), (4, .int (nI (dfO g0 a a))), (3, .int (nI 2147483647)), (0, .ref (ad 70)), (1, .int (nI a)), (2, .int (nI b))]) C.hx C.hb dL_refuses_502 hl (by decide) rfl (fun ls hl => ?_)
  refine lv_iload C.hx C.hb dL_refuses_504 (lv_at hl 1 rfl) ?_
  refine lv_iconst (v := nI 3) C.hx C.hb dL_refuses_506 (by decide +kernel) ?_
  refine lv_icmp_eq (tgt := 531) C.hx C.hb dL_refuses_507 (by decide) (fun c9 => absurd c9 (by decide +kernel)) (fun _ => ?_)
  refine lv_iload C.hx C.hb dL_refuses_510 (lv_at hl 1 rfl) ?_
  refine lv_bipush (v := nI 7) C.hx C.hb dL_refuses_512 (by decide +kernel) ?_
  refine lv_icmp_le (tgt := 524) C.hx C.hb dL_refuses_514 (by decide) (fun _ => ?_) (fun c9 => absurd c9 (by decide +kernel))
  refine lv_iload C.hx C.hb dL_refuses_524 (lv_at hl 1 rfl) ?_
  refine lv_bipush (v := nI 19) C.hx C.hb dL_refuses_526 (by decide +kernel) ?_
  refine lv_icmp_ne (tgt := 535) C.hx C.hb dL_refuses_528 (by decide) (fun _ => ?_) (fun c9 => absurd c9 (by decide +kernel))
  exact kk g z H locs ls hs hP hD hS hl

set_option maxRecDepth 100000 in
set_option maxHeartbeats 4000000 in
theorem tf_34 {p : Program} {l : Launch} {e : Env} {s : State} {m : MethodId} {args : Array Value} {below : List Frame} {meth : Method} {c : Code} {D : va_G} {cA : ClassId} {A : Nat → Prop} {ad : Nat → Nat} {Q : State → Prop} {g0 : Nat → Nat → Int32} {a t b : Nat} (ha : a ≤ 16) (hb9 : b ≤ 40) (hab : 0 < a → 0 < b) (C : lcx p l s m c cL_refuses 16 D cA A) (kk : ∀ (g : Nat → Nat → Int32) (z : Nat → Nat) (H : Heap) (locs : List Loc) (ls : Array Slot), SR g0 a t b g z → va_P D vwCl (rlW cA ad g z) H → va_D A (rlW cA ad g z) → va_S A s.heap H locs → lv_has ls 16 [(15, .int (nI 0)), (14, .int (nI 1)), (13, .int (nI 7)), (12, .int (nI 1)), (11, .int (nI 10)), (10, .int (nI 8)), (9, .int (nI b)), (8, .int (nI a)), (7, .int (-2147483648)), (6, .int (-2147483648)), (5, .int (nI 1)), (4, .int (nI (dfO g0 a a))), (3, .int (nI 2147483647)), (0, .ref (ad 70)), (1, .int (nI a)), (2, .int (nI b))] → W p l e rm_Lr s m args below meth c H locs 82 492 Q (F0 m 560 ls [])) : ∀ (g : Nat → Nat → Int32) (z : Nat → Nat) (H : Heap) (locs : List Loc) (ls : Array Slot), SR g0 a t b g z → va_P D vwCl (rlW cA ad g z) H → va_D A (rlW cA ad g z) → va_S A s.heap H locs → lv_has ls 16 [(14, .int (nI 1)), (13, .int (nI 6)), (15, .int (nI 0)), (12, .int (nI 1)), (11, .int (nI 10)), (10, .int (nI 8)), (9, .int (nI b)), (8, .int (nI a)), (7, .int (-2147483648)), (6, .int (-2147483648)), (5, .int (nI 1)), (4, .int (nI (dfO g0 a a))), (3, .int (nI 2147483647)), (0, .ref (ad 70)), (1, .int (nI a)), (2, .int (nI b))] → W p l e rm_Lr s m args below meth c H locs 80 480 Q (F0 m 535 ls []) := by
  intro g z H locs ls hs hP hD hS hl
  refine lv_iconst (v := nI 0) C.hx C.hb dL_refuses_535 (by decide +kernel) ?_
  refine lv_istore (lv' := [(15, .int (nI 0)), (14, .int (nI 1)), (13, .int (nI 6)), (12, .int (nI 1)), (11, .int (nI 10)), (10, .int (nI 8)), (9, .int (nI b)), (8, .int (nI a)), (7, .int (-2147483648)), (6, .int (-2147483648)), (5, .int (nI 1)), (4, .int (nI (dfO g0 a a))), (3, .int (nI 2147483647)), (0, .ref (ad 70)), (1, .int (nI a)), (2, .int (nI b))]) C.hx C.hb dL_refuses_536 hl (by decide) rfl (fun ls hl => ?_)
  refine lv_iload C.hx C.hb dL_refuses_538 (lv_at hl 1 rfl) ?_
  refine lv_if_eq (tgt := 567) C.hx C.hb dL_refuses_540 (by decide) (fun c9 => absurd c9 (by decide +kernel)) (fun _ => ?_)
  refine lv_aload_n C.hx C.hb dL_refuses_543 rfl (lv_at hl 13 rfl) ?_
  refine lv_iload C.hx C.hb dL_refuses_544 (lv_at hl 2 rfl) ?_
  refine lv_iload C.hx C.hb dL_refuses_546 (lv_at hl 7 rfl) ?_
  refine lv_iconst (v := nI 0) C.hx C.hb dL_refuses_548 (by decide +kernel) ?_
  refine lv_bipush (v := nI 99) C.hx C.hb dL_refuses_549 (by decide +kernel) ?_
  refine lv_iconst (v := nI 0) C.hx C.hb dL_refuses_551 (by decide +kernel) ?_
  refine q_cR (w := 6) (p0 := nI a) (p1 := nI 0) (p2 := nI 99) (p3 := nI 0) (r := -7000001) (c2 := 81) (s2 := 486) C hs hP hD hS (ri_year C.htr (notn (by omega))) hl rfl (Nat.le_of_ble_eq_true rfl) ⟨Nat.le_of_ble_eq_true rfl, Nat.le_of_ble_eq_true rfl⟩ ⟨Nat.le_of_ble_eq_true rfl, Nat.le_of_ble_eq_true rfl⟩ ⟨Nat.le_of_ble_eq_true rfl, Nat.le_of_ble_eq_true rfl⟩ dL_refuses_552 (fun g z H locs hs hP hD hS => ?_)
  refine lv_ldc (v := -7000001) C.hx C.hb C.hown (C.hT.use kk_L_90 args) dL_refuses_555 ?_
  refine lv_icmp_ne (tgt := 564) C.hx C.hb dL_refuses_557 (by decide) (fun c9 => absurd c9 (by decide +kernel)) (fun _ => ?_)
  refine lv_iconst (v := nI 1) C.hx C.hb dL_refuses_560 (by decide +kernel) ?_
  refine lv_goto (tgt := 565) C.hx C.hb dL_refuses_561 (by decide) ?_
  refine lv_istore (lv' := [(12, .int (nI 1)), (15, .int (nI 0)), (14, .int (nI 1)), (13, .int (nI 6)), (11, .int (nI 10)), (10, .int (nI 8)), (9, .int (nI b)), (8, .int (nI a)), (7, .int (-2147483648)), (6, .int (-2147483648)), (5, .int (nI 1)), (4, .int (nI (dfO g0 a a))), (3, .int (nI 2147483647)), (0, .ref (ad 70)), (1, .int (nI a)), (2, .int (nI b))]) C.hx C.hb dL_refuses_565 hl (by decide) rfl (fun ls hl => ?_)
  refine lv_iload C.hx C.hb dL_refuses_567 (lv_at hl 1 rfl) ?_
  refine lv_if_eq (tgt := 637) C.hx C.hb dL_refuses_569 (by decide) (fun _ => ?_) (fun c9 => absurd c9 (by decide +kernel))
  refine lv_iload C.hx C.hb dL_refuses_637 (lv_at hl 3 rfl) ?_
  refine lv_bipush (v := nI 15) C.hx C.hb dL_refuses_639 (by decide +kernel) ?_
  refine lv_icmp_eq (tgt := 658) C.hx C.hb dL_refuses_641 (by decide) (fun c9 => absurd c9 (by decide +kernel)) (fun _ => ?_)
  refine lv_iload C.hx C.hb dL_refuses_644 (lv_at hl 3 rfl) ?_
  refine lv_bipush (v := nI 16) C.hx C.hb dL_refuses_646 (by decide +kernel) ?_
  refine lv_icmp_eq (tgt := 658) C.hx C.hb dL_refuses_648 (by decide) (fun c9 => absurd c9 (by decide +kernel)) (fun _ => ?_)
  refine lv_iload C.hx C.hb dL_refuses_651 (lv_at hl 3 rfl) ?_
  refine lv_bipush (v := nI 18) C.hx C.hb dL_refuses_653 (by decide +kernel) ?_
  refine lv_icmp_ne (tgt := 681) C.hx C.hb dL_refuses_655 (by decide) (fun _ => ?_) (fun c9 => absurd c9 (by decide +kernel))
  refine lv_iinc (v := nI 7) (lv' := [(13, .int (nI 7)), (12, .int (nI 1)), (15, .int (nI 0)), (14, .int (nI 1)), (11, .int (nI 10)), (10, .int (nI 8)), (9, .int (nI b)), (8, .int (nI a)), (7, .int (-2147483648)), (6, .int (-2147483648)), (5, .int (nI 1)), (4, .int (nI (dfO g0 a a))), (3, .int (nI 2147483647)), (0, .ref (ad 70)), (1, .int (nI a)), (2, .int (nI b))]) C.hx C.hb dL_refuses_681 hl (k := 3) rfl (by decide +kernel) (by decide) rfl (fun ls hl => ?_)
  refine lv_goto (tgt := 459) C.hx C.hb dL_refuses_684 (by decide) ?_
  refine lv_iload C.hx C.hb dL_refuses_459 (lv_at hl 0 rfl) ?_
  refine lv_bipush (v := nI 20) C.hx C.hb dL_refuses_461 (by decide +kernel) ?_
  refine lv_icmp_ge (tgt := 687) C.hx C.hb dL_refuses_463 (by decide) (fun c9 => absurd c9 (by decide +kernel)) (fun _ => ?_)
  refine lv_iload C.hx C.hb dL_refuses_466 (lv_at hl 1 rfl) ?_
  refine lv_if_eq (tgt := 687) C.hx C.hb dL_refuses_468 (by decide) (fun c9 => absurd c9 (by decide +kernel)) (fun _ => ?_)
  refine lv_iload C.hx C.hb dL_refuses_471 (lv_at hl 0 rfl) ?_
  refine lv_iconst (v := nI 4) C.hx C.hb dL_refuses_473 (by decide +kernel) ?_
  refine lv_icmp_lt (tgt := 497) C.hx C.hb dL_refuses_474 (by decide) (fun c9 => absurd c9 (by decide +kernel)) (fun _ => ?_)
  refine lv_iload C.hx C.hb dL_refuses_477 (lv_at hl 0 rfl) ?_
  refine lv_iconst (v := nI 5) C.hx C.hb dL_refuses_479 (by decide +kernel) ?_
  refine lv_icmp_le (tgt := 490) C.hx C.hb dL_refuses_480 (by decide) (fun c9 => absurd c9 (by decide +kernel)) (fun _ => ?_)
  refine lv_iload C.hx C.hb dL_refuses_483 (lv_at hl 0 rfl) ?_
  refine lv_bipush (v := nI 15) C.hx C.hb dL_refuses_485 (by decide +kernel) ?_
  refine lv_icmp_lt (tgt := 497) C.hx C.hb dL_refuses_487 (by decide) (fun _ => ?_) (fun c9 => absurd c9 (by decide +kernel))
  refine lv_iconst (v := nI 1) C.hx C.hb dL_refuses_497 (by decide +kernel) ?_
  refine lv_goto (tgt := 502) C.hx C.hb dL_refuses_498 (by decide) ?_
  refine lv_istore (lv' := [(14, .int (nI 1)), (13, .int (nI 7)), (12, .int (nI 1)), (15, .int (nI 0)), (11, .int (nI 10)), (10, .int (nI 8)), (9, .int (nI b)), (8, .int (nI a)), (7, .int (-2147483648)), (6, .int (-2147483648)), (5, .int (nI 1)), (4, .int (nI (dfO g0 a a))), (3, .int (nI 2147483647)), (0, .ref (ad 70)), (1, .int (nI a)), (2, .int (nI b))]) C.hx C.hb dL_refuses_502 hl (by decide) rfl (fun ls hl => ?_)
  refine lv_iload C.hx C.hb dL_refuses_504 (lv_at hl 1 rfl) ?_
  refine lv_iconst (v := nI 3) C.hx C.hb dL_refuses_506 (by decide +kernel) ?_
  refine lv_icmp_eq (tgt := 531) C.hx C.hb dL_refuses_507 (by decide) (fun c9 => absurd c9 (by decide +kernel)) (fun _ => ?_)
  refine lv_iload C.hx C.hb dL_refuses_510 (lv_at hl 1 rfl) ?_
  refine lv_bipush (v := nI 7) C.hx C.hb dL_refuses_512 (by decide +kernel) ?_
  refine lv_icmp_le (tgt := 524) C.hx C.hb dL_refuses_514 (by decide) (fun _ => ?_) (fun c9 => absurd c9 (by decide +kernel))
  refine lv_iload C.hx C.hb dL_refuses_524 (lv_at hl 1 rfl) ?_
  refine lv_bipush (v := nI 19) C.hx C.hb dL_refuses_526 (by decide +kernel) ?_
  refine lv_icmp_ne (tgt := 535) C.hx C.hb dL_refuses_528 (by decide) (fun _ => ?_) (fun c9 => absurd c9 (by decide +kernel))
  refine lv_iconst (v := nI 0) C.hx C.hb dL_refuses_535 (by decide +kernel) ?_
  refine lv_istore (lv' := [(15, .int (nI 0)), (14, .int (nI 1)), (13, .int (nI 7)), (12, .int (nI 1)), (11, .int (nI 10)), (10, .int (nI 8)), (9, .int (nI b)), (8, .int (nI a)), (7, .int (-2147483648)), (6, .int (-2147483648)), (5, .int (nI 1)), (4, .int (nI (dfO g0 a a))), (3, .int (nI 2147483647)), (0, .ref (ad 70)), (1, .int (nI a)), (2, .int (nI b))]) C.hx C.hb dL_refuses_536 hl (by decide) rfl (fun ls hl => ?_)
  refine lv_iload C.hx C.hb dL_refuses_538 (lv_at hl 1 rfl) ?_
  refine lv_if_eq (tgt := 567) C.hx C.hb dL_refuses_540 (by decide) (fun c9 => absurd c9 (by decide +kernel)) (fun _ => ?_)
  refine lv_aload_n C.hx C.hb dL_refuses_543 rfl (lv_at hl 13 rfl) ?_
  refine lv_iload C.hx C.hb dL_refuses_544 (lv_at hl 2 rfl) ?_
  refine lv_iload C.hx C.hb dL_refuses_546 (lv_at hl 7 rfl) ?_
  refine lv_iconst (v := nI 0) C.hx C.hb dL_refuses_548 (by decide +kernel) ?_
  refine lv_bipush (v := nI 99) C.hx C.hb dL_refuses_549 (by decide +kernel) ?_
  refine lv_iconst (v := nI 0) C.hx C.hb dL_refuses_551 (by decide +kernel) ?_
  refine q_cR (w := 7) (p0 := nI a) (p1 := nI 0) (p2 := nI 99) (p3 := nI 0) (r := -7000001) (c2 := 82) (s2 := 492) C hs hP hD hS (ri_yearAnew C.htr (notn (by omega))) hl rfl (Nat.le_of_ble_eq_true rfl) ⟨Nat.le_of_ble_eq_true rfl, Nat.le_of_ble_eq_true rfl⟩ ⟨Nat.le_of_ble_eq_true rfl, Nat.le_of_ble_eq_true rfl⟩ ⟨Nat.le_of_ble_eq_true rfl, Nat.le_of_ble_eq_true rfl⟩ dL_refuses_552 (fun g z H locs hs hP hD hS => ?_)
  refine lv_ldc (v := -7000001) C.hx C.hb C.hown (C.hT.use kk_L_90 args) dL_refuses_555 ?_
  refine lv_icmp_ne (tgt := 564) C.hx C.hb dL_refuses_557 (by decide) (fun c9 => absurd c9 (by decide +kernel)) (fun _ => ?_)
  exact kk g z H locs ls hs hP hD hS hl

set_option maxRecDepth 100000 in
set_option maxHeartbeats 4000000 in
theorem tf_35 {p : Program} {l : Launch} {e : Env} {s : State} {m : MethodId} {args : Array Value} {below : List Frame} {meth : Method} {c : Code} {D : va_G} {cA : ClassId} {A : Nat → Prop} {ad : Nat → Nat} {Q : State → Prop} {g0 : Nat → Nat → Int32} {a t b : Nat} (ha : a ≤ 16) (hb9 : b ≤ 40) (hab : 0 < a → 0 < b) (C : lcx p l s m c cL_refuses 16 D cA A) (kk : ∀ (g : Nat → Nat → Int32) (z : Nat → Nat) (H : Heap) (locs : List Loc) (ls : Array Slot), SR g0 a t b g z → va_P D vwCl (rlW cA ad g z) H → va_D A (rlW cA ad g z) → va_S A s.heap H locs → lv_has ls 16 [(12, .int (nI 1)), (15, .int (nI 1)), (14, .int (nI 1)), (13, .int (nI 8)), (11, .int (nI 10)), (10, .int (nI 8)), (9, .int (nI b)), (8, .int (nI a)), (7, .int (-2147483648)), (6, .int (-2147483648)), (5, .int (nI 1)), (4, .int (nI (dfO g0 a a))), (3, .int (nI 2147483647)), (0, .ref (ad 70)), (1, .int (nI a)), (2, .int (nI b))] → W p l e rm_Lr s m args below meth c H locs 83 498 Q (F0 m 572 ls [])) : ∀ (g : Nat → Nat → Int32) (z : Nat → Nat) (H : Heap) (locs : List Loc) (ls : Array Slot), SR g0 a t b g z → va_P D vwCl (rlW cA ad g z) H → va_D A (rlW cA ad g z) → va_S A s.heap H locs → lv_has ls 16 [(15, .int (nI 0)), (14, .int (nI 1)), (13, .int (nI 7)), (12, .int (nI 1)), (11, .int (nI 10)), (10, .int (nI 8)), (9, .int (nI b)), (8, .int (nI a)), (7, .int (-2147483648)), (6, .int (-2147483648)), (5, .int (nI 1)), (4, .int (nI (dfO g0 a a))), (3, .int (nI 2147483647)), (0, .ref (ad 70)), (1, .int (nI a)), (2, .int (nI b))] → W p l e rm_Lr s m args below meth c H locs 82 492 Q (F0 m 560 ls []) := by
  intro g z H locs ls hs hP hD hS hl
  refine lv_iconst (v := nI 1) C.hx C.hb dL_refuses_560 (by decide +kernel) ?_
  refine lv_goto (tgt := 565) C.hx C.hb dL_refuses_561 (by decide) ?_
  refine lv_istore (lv' := [(12, .int (nI 1)), (15, .int (nI 0)), (14, .int (nI 1)), (13, .int (nI 7)), (11, .int (nI 10)), (10, .int (nI 8)), (9, .int (nI b)), (8, .int (nI a)), (7, .int (-2147483648)), (6, .int (-2147483648)), (5, .int (nI 1)), (4, .int (nI (dfO g0 a a))), (3, .int (nI 2147483647)), (0, .ref (ad 70)), (1, .int (nI a)), (2, .int (nI b))]) C.hx C.hb dL_refuses_565 hl (by decide) rfl (fun ls hl => ?_)
  refine lv_iload C.hx C.hb dL_refuses_567 (lv_at hl 1 rfl) ?_
  refine lv_if_eq (tgt := 637) C.hx C.hb dL_refuses_569 (by decide) (fun _ => ?_) (fun c9 => absurd c9 (by decide +kernel))
  refine lv_iload C.hx C.hb dL_refuses_637 (lv_at hl 3 rfl) ?_
  refine lv_bipush (v := nI 15) C.hx C.hb dL_refuses_639 (by decide +kernel) ?_
  refine lv_icmp_eq (tgt := 658) C.hx C.hb dL_refuses_641 (by decide) (fun c9 => absurd c9 (by decide +kernel)) (fun _ => ?_)
  refine lv_iload C.hx C.hb dL_refuses_644 (lv_at hl 3 rfl) ?_
  refine lv_bipush (v := nI 16) C.hx C.hb dL_refuses_646 (by decide +kernel) ?_
  refine lv_icmp_eq (tgt := 658) C.hx C.hb dL_refuses_648 (by decide) (fun c9 => absurd c9 (by decide +kernel)) (fun _ => ?_)
  refine lv_iload C.hx C.hb dL_refuses_651 (lv_at hl 3 rfl) ?_
  refine lv_bipush (v := nI 18) C.hx C.hb dL_refuses_653 (by decide +kernel) ?_
  refine lv_icmp_ne (tgt := 681) C.hx C.hb dL_refuses_655 (by decide) (fun _ => ?_) (fun c9 => absurd c9 (by decide +kernel))
  refine lv_iinc (v := nI 8) (lv' := [(13, .int (nI 8)), (12, .int (nI 1)), (15, .int (nI 0)), (14, .int (nI 1)), (11, .int (nI 10)), (10, .int (nI 8)), (9, .int (nI b)), (8, .int (nI a)), (7, .int (-2147483648)), (6, .int (-2147483648)), (5, .int (nI 1)), (4, .int (nI (dfO g0 a a))), (3, .int (nI 2147483647)), (0, .ref (ad 70)), (1, .int (nI a)), (2, .int (nI b))]) C.hx C.hb dL_refuses_681 hl (k := 3) rfl (by decide +kernel) (by decide) rfl (fun ls hl => ?_)
  refine lv_goto (tgt := 459) C.hx C.hb dL_refuses_684 (by decide) ?_
  refine lv_iload C.hx C.hb dL_refuses_459 (lv_at hl 0 rfl) ?_
  refine lv_bipush (v := nI 20) C.hx C.hb dL_refuses_461 (by decide +kernel) ?_
  refine lv_icmp_ge (tgt := 687) C.hx C.hb dL_refuses_463 (by decide) (fun c9 => absurd c9 (by decide +kernel)) (fun _ => ?_)
  refine lv_iload C.hx C.hb dL_refuses_466 (lv_at hl 1 rfl) ?_
  refine lv_if_eq (tgt := 687) C.hx C.hb dL_refuses_468 (by decide) (fun c9 => absurd c9 (by decide +kernel)) (fun _ => ?_)
  refine lv_iload C.hx C.hb dL_refuses_471 (lv_at hl 0 rfl) ?_
  refine lv_iconst (v := nI 4) C.hx C.hb dL_refuses_473 (by decide +kernel) ?_
  refine lv_icmp_lt (tgt := 497) C.hx C.hb dL_refuses_474 (by decide) (fun c9 => absurd c9 (by decide +kernel)) (fun _ => ?_)
  refine lv_iload C.hx C.hb dL_refuses_477 (lv_at hl 0 rfl) ?_
  refine lv_iconst (v := nI 5) C.hx C.hb dL_refuses_479 (by decide +kernel) ?_
  refine lv_icmp_le (tgt := 490) C.hx C.hb dL_refuses_480 (by decide) (fun c9 => absurd c9 (by decide +kernel)) (fun _ => ?_)
  refine lv_iload C.hx C.hb dL_refuses_483 (lv_at hl 0 rfl) ?_
  refine lv_bipush (v := nI 15) C.hx C.hb dL_refuses_485 (by decide +kernel) ?_
  refine lv_icmp_lt (tgt := 497) C.hx C.hb dL_refuses_487 (by decide) (fun _ => ?_) (fun c9 => absurd c9 (by decide +kernel))
  refine lv_iconst (v := nI 1) C.hx C.hb dL_refuses_497 (by decide +kernel) ?_
  refine lv_goto (tgt := 502) C.hx C.hb dL_refuses_498 (by decide) ?_
  refine lv_istore (lv' := [(14, .int (nI 1)), (13, .int (nI 8)), (12, .int (nI 1)), (15, .int (nI 0)), (11, .int (nI 10)), (10, .int (nI 8)), (9, .int (nI b)), (8, .int (nI a)), (7, .int (-2147483648)), (6, .int (-2147483648)), (5, .int (nI 1)), (4, .int (nI (dfO g0 a a))), (3, .int (nI 2147483647)), (0, .ref (ad 70)), (1, .int (nI a)), (2, .int (nI b))]) C.hx C.hb dL_refuses_502 hl (by decide) rfl (fun ls hl => ?_)
  refine lv_iload C.hx C.hb dL_refuses_504 (lv_at hl 1 rfl) ?_
  refine lv_iconst (v := nI 3) C.hx C.hb dL_refuses_506 (by decide +kernel) ?_
  refine lv_icmp_eq (tgt := 531) C.hx C.hb dL_refuses_507 (by decide) (fun c9 => absurd c9 (by decide +kernel)) (fun _ => ?_)
  refine lv_iload C.hx C.hb dL_refuses_510 (lv_at hl 1 rfl) ?_
  refine lv_bipush (v := nI 7) C.hx C.hb dL_refuses_512 (by decide +kernel) ?_
  refine lv_icmp_le (tgt := 524) C.hx C.hb dL_refuses_514 (by decide) (fun c9 => absurd c9 (by decide +kernel)) (fun _ => ?_)
  refine lv_iload C.hx C.hb dL_refuses_517 (lv_at hl 1 rfl) ?_
  refine lv_bipush (v := nI 13) C.hx C.hb dL_refuses_519 (by decide +kernel) ?_
  refine lv_icmp_lt (tgt := 531) C.hx C.hb dL_refuses_521 (by decide) (fun _ => ?_) (fun c9 => absurd c9 (by decide +kernel))
  refine lv_iconst (v := nI 1) C.hx C.hb dL_refuses_531 (by decide +kernel) ?_
  refine lv_goto (tgt := 536) C.hx C.hb dL_refuses_532 (by decide) ?_
  refine lv_istore (lv' := [(15, .int (nI 1)), (14, .int (nI 1)), (13, .int (nI 8)), (12, .int (nI 1)), (11, .int (nI 10)), (10, .int (nI 8)), (9, .int (nI b)), (8, .int (nI a)), (7, .int (-2147483648)), (6, .int (-2147483648)), (5, .int (nI 1)), (4, .int (nI (dfO g0 a a))), (3, .int (nI 2147483647)), (0, .ref (ad 70)), (1, .int (nI a)), (2, .int (nI b))]) C.hx C.hb dL_refuses_536 hl (by decide) rfl (fun ls hl => ?_)
  refine lv_iload C.hx C.hb dL_refuses_538 (lv_at hl 1 rfl) ?_
  refine lv_if_eq (tgt := 567) C.hx C.hb dL_refuses_540 (by decide) (fun c9 => absurd c9 (by decide +kernel)) (fun _ => ?_)
  refine lv_aload_n C.hx C.hb dL_refuses_543 rfl (lv_at hl 13 rfl) ?_
  refine lv_iload C.hx C.hb dL_refuses_544 (lv_at hl 2 rfl) ?_
  refine lv_iload C.hx C.hb dL_refuses_546 (lv_at hl 7 rfl) ?_
  refine lv_iconst (v := nI 0) C.hx C.hb dL_refuses_548 (by decide +kernel) ?_
  refine lv_bipush (v := nI 99) C.hx C.hb dL_refuses_549 (by decide +kernel) ?_
  refine lv_iconst (v := nI 0) C.hx C.hb dL_refuses_551 (by decide +kernel) ?_
  refine q_cR (w := 8) (p0 := nI a) (p1 := nI 0) (p2 := nI 99) (p3 := nI 0) (r := -7000001) (c2 := 83) (s2 := 498) C hs hP hD hS (ri_seal C.htr (notn (by omega))) hl rfl (Nat.le_of_ble_eq_true rfl) ⟨Nat.le_of_ble_eq_true rfl, Nat.le_of_ble_eq_true rfl⟩ ⟨Nat.le_of_ble_eq_true rfl, Nat.le_of_ble_eq_true rfl⟩ ⟨Nat.le_of_ble_eq_true rfl, Nat.le_of_ble_eq_true rfl⟩ dL_refuses_552 (fun g z H locs hs hP hD hS => ?_)
  refine lv_ldc (v := -7000001) C.hx C.hb C.hown (C.hT.use kk_L_90 args) dL_refuses_555 ?_
  refine lv_icmp_ne (tgt := 564) C.hx C.hb dL_refuses_557 (by decide) (fun c9 => absurd c9 (by decide +kernel)) (fun _ => ?_)
  refine lv_iconst (v := nI 1) C.hx C.hb dL_refuses_560 (by decide +kernel) ?_
  refine lv_goto (tgt := 565) C.hx C.hb dL_refuses_561 (by decide) ?_
  refine lv_istore (lv' := [(12, .int (nI 1)), (15, .int (nI 1)), (14, .int (nI 1)), (13, .int (nI 8)), (11, .int (nI 10)), (10, .int (nI 8)), (9, .int (nI b)), (8, .int (nI a)), (7, .int (-2147483648)), (6, .int (-2147483648)), (5, .int (nI 1)), (4, .int (nI (dfO g0 a a))), (3, .int (nI 2147483647)), (0, .ref (ad 70)), (1, .int (nI a)), (2, .int (nI b))]) C.hx C.hb dL_refuses_565 hl (by decide) rfl (fun ls hl => ?_)
  refine lv_iload C.hx C.hb dL_refuses_567 (lv_at hl 1 rfl) ?_
  refine lv_if_eq (tgt := 637) C.hx C.hb dL_refuses_569 (by decide) (fun c9 => absurd c9 (by decide +kernel)) (fun _ => ?_)
  exact kk g z H locs ls hs hP hD hS hl

set_option maxRecDepth 100000 in
set_option maxHeartbeats 4000000 in
theorem tf_36 {p : Program} {l : Launch} {e : Env} {s : State} {m : MethodId} {args : Array Value} {below : List Frame} {meth : Method} {c : Code} {D : va_G} {cA : ClassId} {A : Nat → Prop} {ad : Nat → Nat} {Q : State → Prop} {g0 : Nat → Nat → Int32} {a t b : Nat} (ha : a ≤ 16) (hb9 : b ≤ 40) (hab : 0 < a → 0 < b) (C : lcx p l s m c cL_refuses 16 D cA A) (kk : ∀ (g : Nat → Nat → Int32) (z : Nat → Nat) (H : Heap) (locs : List Loc) (ls : Array Slot), SR g0 a t b g z → va_P D vwCl (rlW cA ad g z) H → va_D A (rlW cA ad g z) → va_S A s.heap H locs → lv_has ls 16 [(12, .int (nI 1)), (15, .int (nI 1)), (14, .int (nI 1)), (13, .int (nI 8)), (11, .int (nI 10)), (10, .int (nI 8)), (9, .int (nI b)), (8, .int (nI a)), (7, .int (-2147483648)), (6, .int (-2147483648)), (5, .int (nI 1)), (4, .int (nI (dfO g0 a a))), (3, .int (nI 2147483647)), (0, .ref (ad 70)), (1, .int (nI a)), (2, .int (nI b))] → W p l e rm_Lr s m args below meth c H locs 86 516 Q (F0 m 630 ls [])) : ∀ (g : Nat → Nat → Int32) (z : Nat → Nat) (H : Heap) (locs : List Loc) (ls : Array Slot), SR g0 a t b g z → va_P D vwCl (rlW cA ad g z) H → va_D A (rlW cA ad g z) → va_S A s.heap H locs → lv_has ls 16 [(12, .int (nI 1)), (15, .int (nI 1)), (14, .int (nI 1)), (13, .int (nI 8)), (11, .int (nI 10)), (10, .int (nI 8)), (9, .int (nI b)), (8, .int (nI a)), (7, .int (-2147483648)), (6, .int (-2147483648)), (5, .int (nI 1)), (4, .int (nI (dfO g0 a a))), (3, .int (nI 2147483647)), (0, .ref (ad 70)), (1, .int (nI a)), (2, .int (nI b))] → W p l e rm_Lr s m args below meth c H locs 83 498 Q (F0 m 572 ls []) := by
  intro g z H locs ls hs hP hD hS hl
  refine lv_iload C.hx C.hb dL_refuses_572 (lv_at hl 0 rfl) ?_
  refine lv_if_eq (tgt := 634) C.hx C.hb dL_refuses_574 (by decide) (fun c9 => absurd c9 (by decide +kernel)) (fun _ => ?_)
  refine lv_aload_n C.hx C.hb dL_refuses_577 rfl (lv_at hl 13 rfl) ?_
  refine lv_iload C.hx C.hb dL_refuses_578 (lv_at hl 3 rfl) ?_
  refine lv_iconst (v := nI 0) C.hx C.hb dL_refuses_580 (by decide +kernel) ?_
  refine lv_iload C.hx C.hb dL_refuses_581 (lv_at hl 7 rfl) ?_
  refine lv_bipush (v := nI 99) C.hx C.hb dL_refuses_583 (by decide +kernel) ?_
  refine lv_iconst (v := nI 0) C.hx C.hb dL_refuses_585 (by decide +kernel) ?_
  refine q_cR (w := 8) (p0 := nI 0) (p1 := nI a) (p2 := nI 99) (p3 := nI 0) (r := -7000001) (c2 := 84) (s2 := 504) C hs hP hD hS (rj_seal C.htr (notn (by omega))) hl rfl (Nat.le_of_ble_eq_true rfl) ⟨Nat.le_of_ble_eq_true rfl, Nat.le_of_ble_eq_true rfl⟩ ⟨Nat.le_of_ble_eq_true rfl, Nat.le_of_ble_eq_true rfl⟩ ⟨Nat.le_of_ble_eq_true rfl, Nat.le_of_ble_eq_true rfl⟩ dL_refuses_586 (fun g z H locs hs hP hD hS => ?_)
  refine lv_ldc (v := -7000001) C.hx C.hb C.hown (C.hT.use kk_L_90 args) dL_refuses_589 ?_
  refine lv_icmp_ne (tgt := 634) C.hx C.hb dL_refuses_591 (by decide) (fun c9 => absurd c9 (by decide +kernel)) (fun _ => ?_)
  refine lv_aload_n C.hx C.hb dL_refuses_594 rfl (lv_at hl 13 rfl) ?_
  refine lv_iload C.hx C.hb dL_refuses_595 (lv_at hl 3 rfl) ?_
  refine lv_iload C.hx C.hb dL_refuses_597 (lv_at hl 7 rfl) ?_
  refine lv_iload C.hx C.hb dL_refuses_599 (lv_at hl 7 rfl) ?_
  refine lv_iconst (v := nI 0) C.hx C.hb dL_refuses_601 (by decide +kernel) ?_
  refine lv_iconst (v := nI 0) C.hx C.hb dL_refuses_602 (by decide +kernel) ?_
  refine q_cR (w := 8) (p0 := nI a) (p1 := nI a) (p2 := nI 0) (p3 := nI 0) (r := -7000001) (c2 := 85) (s2 := 510) C hs hP hD hS (ri_seal C.htr (notn (by omega))) hl rfl (Nat.le_of_ble_eq_true rfl) ⟨Nat.le_of_ble_eq_true rfl, Nat.le_of_ble_eq_true rfl⟩ ⟨Nat.le_of_ble_eq_true rfl, Nat.le_of_ble_eq_true rfl⟩ ⟨Nat.le_of_ble_eq_true rfl, Nat.le_of_ble_eq_true rfl⟩ dL_refuses_603 (fun g z H locs hs hP hD hS => ?_)
  refine lv_ldc (v := -7000001) C.hx C.hb C.hown (C.hT.use kk_L_90 args) dL_refuses_606 ?_
  refine lv_icmp_ne (tgt := 634) C.hx C.hb dL_refuses_608 (by decide) (fun c9 => absurd c9 (by decide +kernel)) (fun _ => ?_)
  refine lv_iload_n C.hx C.hb dL_refuses_611 rfl (lv_at hl 14 rfl) ?_
  refine lv_if_eq (tgt := 630) C.hx C.hb dL_refuses_612 (by decide) (fun c9 => ?_) (fun c9 => ?_)
  · refine W.widen (k := 86) (n := 516) (Nat.le_of_ble_eq_true rfl) (Nat.le_of_ble_eq_true rfl) ?_
    exact kk g z H locs ls hs hP hD hS hl
  · have ha0 : 0 < a := Nat.pos_of_ne_zero (fun q => c9 (by rw [q]; rfl))
    have hb0 : 0 < b := hab ha0
    refine lv_aload_n C.hx C.hb dL_refuses_615 rfl (lv_at hl 13 rfl) ?_
    refine lv_iload C.hx C.hb dL_refuses_616 (lv_at hl 3 rfl) ?_
    refine lv_iconst (v := nI 0) C.hx C.hb dL_refuses_618 (by decide +kernel) ?_
    refine lv_iconst (v := nI 0) C.hx C.hb dL_refuses_619 (by decide +kernel) ?_
    refine lv_iconst (v := nI 0) C.hx C.hb dL_refuses_620 (by decide +kernel) ?_
    refine lv_iconst (v := nI 0) C.hx C.hb dL_refuses_621 (by decide +kernel) ?_
    refine q_cR (w := 8) (p0 := nI 0) (p1 := nI 0) (p2 := nI 0) (p3 := nI 0) (r := -7000002) (c2 := 86) (s2 := 516) C hs hP hD hS (rs_seal C.htr (q_r_nI (by omega))) hl rfl (Nat.le_of_ble_eq_true rfl) ⟨Nat.le_of_ble_eq_true rfl, Nat.le_of_ble_eq_true rfl⟩ ⟨Nat.le_of_ble_eq_true rfl, Nat.le_of_ble_eq_true rfl⟩ ⟨Nat.le_of_ble_eq_true rfl, Nat.le_of_ble_eq_true rfl⟩ dL_refuses_622 (fun g z H locs hs hP hD hS => ?_)
    refine lv_ldc (v := -7000002) C.hx C.hb C.hown (C.hT.use kk_L_93 args) dL_refuses_625 ?_
    refine lv_icmp_ne (tgt := 634) C.hx C.hb dL_refuses_627 (by decide) (fun c9 => absurd c9 (by decide +kernel)) (fun _ => ?_)
    exact kk g z H locs ls hs hP hD hS hl

set_option maxRecDepth 100000 in
set_option maxHeartbeats 4000000 in
theorem tf_37 {p : Program} {l : Launch} {e : Env} {s : State} {m : MethodId} {args : Array Value} {below : List Frame} {meth : Method} {c : Code} {D : va_G} {cA : ClassId} {A : Nat → Prop} {ad : Nat → Nat} {Q : State → Prop} {g0 : Nat → Nat → Int32} {a t b : Nat} (ha : a ≤ 16) (hb9 : b ≤ 40) (hab : 0 < a → 0 < b) (C : lcx p l s m c cL_refuses 16 D cA A) (kk : ∀ (g : Nat → Nat → Int32) (z : Nat → Nat) (H : Heap) (locs : List Loc) (ls : Array Slot), SR g0 a t b g z → va_P D vwCl (rlW cA ad g z) H → va_D A (rlW cA ad g z) → va_S A s.heap H locs → lv_has ls 16 [(12, .int (nI 1)), (15, .int (nI 1)), (14, .int (nI 1)), (13, .int (nI 9)), (11, .int (nI 10)), (10, .int (nI 8)), (9, .int (nI b)), (8, .int (nI a)), (7, .int (-2147483648)), (6, .int (-2147483648)), (5, .int (nI 1)), (4, .int (nI (dfO g0 a a))), (3, .int (nI 2147483647)), (0, .ref (ad 70)), (1, .int (nI a)), (2, .int (nI b))] → W p l e rm_Lr s m args below meth c H locs 87 522 Q (F0 m 577 ls [])) : ∀ (g : Nat → Nat → Int32) (z : Nat → Nat) (H : Heap) (locs : List Loc) (ls : Array Slot), SR g0 a t b g z → va_P D vwCl (rlW cA ad g z) H → va_D A (rlW cA ad g z) → va_S A s.heap H locs → lv_has ls 16 [(12, .int (nI 1)), (15, .int (nI 1)), (14, .int (nI 1)), (13, .int (nI 8)), (11, .int (nI 10)), (10, .int (nI 8)), (9, .int (nI b)), (8, .int (nI a)), (7, .int (-2147483648)), (6, .int (-2147483648)), (5, .int (nI 1)), (4, .int (nI (dfO g0 a a))), (3, .int (nI 2147483647)), (0, .ref (ad 70)), (1, .int (nI a)), (2, .int (nI b))] → W p l e rm_Lr s m args below meth c H locs 86 516 Q (F0 m 630 ls []) := by
  intro g z H locs ls hs hP hD hS hl
  refine lv_iconst (v := nI 1) C.hx C.hb dL_refuses_630 (by decide +kernel) ?_
  refine lv_goto (tgt := 635) C.hx C.hb dL_refuses_631 (by decide) ?_
  refine lv_istore (lv' := [(12, .int (nI 1)), (15, .int (nI 1)), (14, .int (nI 1)), (13, .int (nI 8)), (11, .int (nI 10)), (10, .int (nI 8)), (9, .int (nI b)), (8, .int (nI a)), (7, .int (-2147483648)), (6, .int (-2147483648)), (5, .int (nI 1)), (4, .int (nI (dfO g0 a a))), (3, .int (nI 2147483647)), (0, .ref (ad 70)), (1, .int (nI a)), (2, .int (nI b))]) C.hx C.hb dL_refuses_635 hl (by decide) rfl (fun ls hl => ?_)
  refine lv_iload C.hx C.hb dL_refuses_637 (lv_at hl 3 rfl) ?_
  refine lv_bipush (v := nI 15) C.hx C.hb dL_refuses_639 (by decide +kernel) ?_
  refine lv_icmp_eq (tgt := 658) C.hx C.hb dL_refuses_641 (by decide) (fun c9 => absurd c9 (by decide +kernel)) (fun _ => ?_)
  refine lv_iload C.hx C.hb dL_refuses_644 (lv_at hl 3 rfl) ?_
  refine lv_bipush (v := nI 16) C.hx C.hb dL_refuses_646 (by decide +kernel) ?_
  refine lv_icmp_eq (tgt := 658) C.hx C.hb dL_refuses_648 (by decide) (fun c9 => absurd c9 (by decide +kernel)) (fun _ => ?_)
  refine lv_iload C.hx C.hb dL_refuses_651 (lv_at hl 3 rfl) ?_
  refine lv_bipush (v := nI 18) C.hx C.hb dL_refuses_653 (by decide +kernel) ?_
  refine lv_icmp_ne (tgt := 681) C.hx C.hb dL_refuses_655 (by decide) (fun _ => ?_) (fun c9 => absurd c9 (by decide +kernel))
  refine lv_iinc (v := nI 9) (lv' := [(13, .int (nI 9)), (12, .int (nI 1)), (15, .int (nI 1)), (14, .int (nI 1)), (11, .int (nI 10)), (10, .int (nI 8)), (9, .int (nI b)), (8, .int (nI a)), (7, .int (-2147483648)), (6, .int (-2147483648)), (5, .int (nI 1)), (4, .int (nI (dfO g0 a a))), (3, .int (nI 2147483647)), (0, .ref (ad 70)), (1, .int (nI a)), (2, .int (nI b))]) C.hx C.hb dL_refuses_681 hl (k := 3) rfl (by decide +kernel) (by decide) rfl (fun ls hl => ?_)
  refine lv_goto (tgt := 459) C.hx C.hb dL_refuses_684 (by decide) ?_
  refine lv_iload C.hx C.hb dL_refuses_459 (lv_at hl 0 rfl) ?_
  refine lv_bipush (v := nI 20) C.hx C.hb dL_refuses_461 (by decide +kernel) ?_
  refine lv_icmp_ge (tgt := 687) C.hx C.hb dL_refuses_463 (by decide) (fun c9 => absurd c9 (by decide +kernel)) (fun _ => ?_)
  refine lv_iload C.hx C.hb dL_refuses_466 (lv_at hl 1 rfl) ?_
  refine lv_if_eq (tgt := 687) C.hx C.hb dL_refuses_468 (by decide) (fun c9 => absurd c9 (by decide +kernel)) (fun _ => ?_)
  refine lv_iload C.hx C.hb dL_refuses_471 (lv_at hl 0 rfl) ?_
  refine lv_iconst (v := nI 4) C.hx C.hb dL_refuses_473 (by decide +kernel) ?_
  refine lv_icmp_lt (tgt := 497) C.hx C.hb dL_refuses_474 (by decide) (fun c9 => absurd c9 (by decide +kernel)) (fun _ => ?_)
  refine lv_iload C.hx C.hb dL_refuses_477 (lv_at hl 0 rfl) ?_
  refine lv_iconst (v := nI 5) C.hx C.hb dL_refuses_479 (by decide +kernel) ?_
  refine lv_icmp_le (tgt := 490) C.hx C.hb dL_refuses_480 (by decide) (fun c9 => absurd c9 (by decide +kernel)) (fun _ => ?_)
  refine lv_iload C.hx C.hb dL_refuses_483 (lv_at hl 0 rfl) ?_
  refine lv_bipush (v := nI 15) C.hx C.hb dL_refuses_485 (by decide +kernel) ?_
  refine lv_icmp_lt (tgt := 497) C.hx C.hb dL_refuses_487 (by decide) (fun _ => ?_) (fun c9 => absurd c9 (by decide +kernel))
  refine lv_iconst (v := nI 1) C.hx C.hb dL_refuses_497 (by decide +kernel) ?_
  refine lv_goto (tgt := 502) C.hx C.hb dL_refuses_498 (by decide) ?_
  refine lv_istore (lv' := [(14, .int (nI 1)), (13, .int (nI 9)), (12, .int (nI 1)), (15, .int (nI 1)), (11, .int (nI 10)), (10, .int (nI 8)), (9, .int (nI b)), (8, .int (nI a)), (7, .int (-2147483648)), (6, .int (-2147483648)), (5, .int (nI 1)), (4, .int (nI (dfO g0 a a))), (3, .int (nI 2147483647)), (0, .ref (ad 70)), (1, .int (nI a)), (2, .int (nI b))]) C.hx C.hb dL_refuses_502 hl (by decide) rfl (fun ls hl => ?_)
  refine lv_iload C.hx C.hb dL_refuses_504 (lv_at hl 1 rfl) ?_
  refine lv_iconst (v := nI 3) C.hx C.hb dL_refuses_506 (by decide +kernel) ?_
  refine lv_icmp_eq (tgt := 531) C.hx C.hb dL_refuses_507 (by decide) (fun c9 => absurd c9 (by decide +kernel)) (fun _ => ?_)
  refine lv_iload C.hx C.hb dL_refuses_510 (lv_at hl 1 rfl) ?_
  refine lv_bipush (v := nI 7) C.hx C.hb dL_refuses_512 (by decide +kernel) ?_
  refine lv_icmp_le (tgt := 524) C.hx C.hb dL_refuses_514 (by decide) (fun c9 => absurd c9 (by decide +kernel)) (fun _ => ?_)
  refine lv_iload C.hx C.hb dL_refuses_517 (lv_at hl 1 rfl) ?_
  refine lv_bipush (v := nI 13) C.hx C.hb dL_refuses_519 (by decide +kernel) ?_
  refine lv_icmp_lt (tgt := 531) C.hx C.hb dL_refuses_521 (by decide) (fun _ => ?_) (fun c9 => absurd c9 (by decide +kernel))
  refine lv_iconst (v := nI 1) C.hx C.hb dL_refuses_531 (by decide +kernel) ?_
  refine lv_goto (tgt := 536) C.hx C.hb dL_refuses_532 (by decide) ?_
  refine lv_istore (lv' := [(15, .int (nI 1)), (14, .int (nI 1)), (13, .int (nI 9)), (12, .int (nI 1)), (11, .int (nI 10)), (10, .int (nI 8)), (9, .int (nI b)), (8, .int (nI a)), (7, .int (-2147483648)), (6, .int (-2147483648)), (5, .int (nI 1)), (4, .int (nI (dfO g0 a a))), (3, .int (nI 2147483647)), (0, .ref (ad 70)), (1, .int (nI a)), (2, .int (nI b))]) C.hx C.hb dL_refuses_536 hl (by decide) rfl (fun ls hl => ?_)
  refine lv_iload C.hx C.hb dL_refuses_538 (lv_at hl 1 rfl) ?_
  refine lv_if_eq (tgt := 567) C.hx C.hb dL_refuses_540 (by decide) (fun c9 => absurd c9 (by decide +kernel)) (fun _ => ?_)
  refine lv_aload_n C.hx C.hb dL_refuses_543 rfl (lv_at hl 13 rfl) ?_
  refine lv_iload C.hx C.hb dL_refuses_544 (lv_at hl 2 rfl) ?_
  refine lv_iload C.hx C.hb dL_refuses_546 (lv_at hl 7 rfl) ?_
  refine lv_iconst (v := nI 0) C.hx C.hb dL_refuses_548 (by decide +kernel) ?_
  refine lv_bipush (v := nI 99) C.hx C.hb dL_refuses_549 (by decide +kernel) ?_
  refine lv_iconst (v := nI 0) C.hx C.hb dL_refuses_551 (by decide +kernel) ?_
  refine q_cR (w := 9) (p0 := nI a) (p1 := nI 0) (p2 := nI 99) (p3 := nI 0) (r := -7000001) (c2 := 87) (s2 := 522) C hs hP hD hS (ri_block C.htr (notn (by omega))) hl rfl (Nat.le_of_ble_eq_true rfl) ⟨Nat.le_of_ble_eq_true rfl, Nat.le_of_ble_eq_true rfl⟩ ⟨Nat.le_of_ble_eq_true rfl, Nat.le_of_ble_eq_true rfl⟩ ⟨Nat.le_of_ble_eq_true rfl, Nat.le_of_ble_eq_true rfl⟩ dL_refuses_552 (fun g z H locs hs hP hD hS => ?_)
  refine lv_ldc (v := -7000001) C.hx C.hb C.hown (C.hT.use kk_L_90 args) dL_refuses_555 ?_
  refine lv_icmp_ne (tgt := 564) C.hx C.hb dL_refuses_557 (by decide) (fun c9 => absurd c9 (by decide +kernel)) (fun _ => ?_)
  refine lv_iconst (v := nI 1) C.hx C.hb dL_refuses_560 (by decide +kernel) ?_
  refine lv_goto (tgt := 565) C.hx C.hb dL_refuses_561 (by decide) ?_
  refine lv_istore (lv' := [(12, .int (nI 1)), (15, .int (nI 1)), (14, .int (nI 1)), (13, .int (nI 9)), (11, .int (nI 10)), (10, .int (nI 8)), (9, .int (nI b)), (8, .int (nI a)), (7, .int (-2147483648)), (6, .int (-2147483648)), (5, .int (nI 1)), (4, .int (nI (dfO g0 a a))), (3, .int (nI 2147483647)), (0, .ref (ad 70)), (1, .int (nI a)), (2, .int (nI b))]) C.hx C.hb dL_refuses_565 hl (by decide) rfl (fun ls hl => ?_)
  refine lv_iload C.hx C.hb dL_refuses_567 (lv_at hl 1 rfl) ?_
  refine lv_if_eq (tgt := 637) C.hx C.hb dL_refuses_569 (by decide) (fun c9 => absurd c9 (by decide +kernel)) (fun _ => ?_)
  refine lv_iload C.hx C.hb dL_refuses_572 (lv_at hl 0 rfl) ?_
  refine lv_if_eq (tgt := 634) C.hx C.hb dL_refuses_574 (by decide) (fun c9 => absurd c9 (by decide +kernel)) (fun _ => ?_)
  exact kk g z H locs ls hs hP hD hS hl

set_option maxRecDepth 100000 in
set_option maxHeartbeats 4000000 in
theorem tf_38 {p : Program} {l : Launch} {e : Env} {s : State} {m : MethodId} {args : Array Value} {below : List Frame} {meth : Method} {c : Code} {D : va_G} {cA : ClassId} {A : Nat → Prop} {ad : Nat → Nat} {Q : State → Prop} {g0 : Nat → Nat → Int32} {a t b : Nat} (ha : a ≤ 16) (hb9 : b ≤ 40) (hab : 0 < a → 0 < b) (C : lcx p l s m c cL_refuses 16 D cA A) (kk : ∀ (g : Nat → Nat → Int32) (z : Nat → Nat) (H : Heap) (locs : List Loc) (ls : Array Slot), SR g0 a t b g z → va_P D vwCl (rlW cA ad g z) H → va_D A (rlW cA ad g z) → va_S A s.heap H locs → lv_has ls 16 [(12, .int (nI 1)), (15, .int (nI 1)), (14, .int (nI 1)), (13, .int (nI 9)), (11, .int (nI 10)), (10, .int (nI 8)), (9, .int (nI b)), (8, .int (nI a)), (7, .int (-2147483648)), (6, .int (-2147483648)), (5, .int (nI 1)), (4, .int (nI (dfO g0 a a))), (3, .int (nI 2147483647)), (0, .ref (ad 70)), (1, .int (nI a)), (2, .int (nI b))] → W p l e rm_Lr s m args below meth c H locs 90 540 Q (F0 m 630 ls [])) : ∀ (g : Nat → Nat → Int32) (z : Nat → Nat) (H : Heap) (locs : List Loc) (ls : Array Slot), SR g0 a t b g z → va_P D vwCl (rlW cA ad g z) H → va_D A (rlW cA ad g z) → va_S A s.heap H locs → lv_has ls 16 [(12, .int (nI 1)), (15, .int (nI 1)), (14, .int (nI 1)), (13, .int (nI 9)), (11, .int (nI 10)), (10, .int (nI 8)), (9, .int (nI b)), (8, .int (nI a)), (7, .int (-2147483648)), (6, .int (-2147483648)), (5, .int (nI 1)), (4, .int (nI (dfO g0 a a))), (3, .int (nI 2147483647)), (0, .ref (ad 70)), (1, .int (nI a)), (2, .int (nI b))] → W p l e rm_Lr s m args below meth c H locs 87 522 Q (F0 m 577 ls []) := by
  intro g z H locs ls hs hP hD hS hl
  refine lv_aload_n C.hx C.hb dL_refuses_577 rfl (lv_at hl 13 rfl) ?_
  refine lv_iload C.hx C.hb dL_refuses_578 (lv_at hl 3 rfl) ?_
  refine lv_iconst (v := nI 0) C.hx C.hb dL_refuses_580 (by decide +kernel) ?_
  refine lv_iload C.hx C.hb dL_refuses_581 (lv_at hl 7 rfl) ?_
  refine lv_bipush (v := nI 99) C.hx C.hb dL_refuses_583 (by decide +kernel) ?_
  refine lv_iconst (v := nI 0) C.hx C.hb dL_refuses_585 (by decide +kernel) ?_
  refine q_cR (w := 9) (p0 := nI 0) (p1 := nI a) (p2 := nI 99) (p3 := nI 0) (r := -7000001) (c2 := 88) (s2 := 528) C hs hP hD hS (rj_block C.htr (notn (by omega))) hl rfl (Nat.le_of_ble_eq_true rfl) ⟨Nat.le_of_ble_eq_true rfl, Nat.le_of_ble_eq_true rfl⟩ ⟨Nat.le_of_ble_eq_true rfl, Nat.le_of_ble_eq_true rfl⟩ ⟨Nat.le_of_ble_eq_true rfl, Nat.le_of_ble_eq_true rfl⟩ dL_refuses_586 (fun g z H locs hs hP hD hS => ?_)
  refine lv_ldc (v := -7000001) C.hx C.hb C.hown (C.hT.use kk_L_90 args) dL_refuses_589 ?_
  refine lv_icmp_ne (tgt := 634) C.hx C.hb dL_refuses_591 (by decide) (fun c9 => absurd c9 (by decide +kernel)) (fun _ => ?_)
  refine lv_aload_n C.hx C.hb dL_refuses_594 rfl (lv_at hl 13 rfl) ?_
  refine lv_iload C.hx C.hb dL_refuses_595 (lv_at hl 3 rfl) ?_
  refine lv_iload C.hx C.hb dL_refuses_597 (lv_at hl 7 rfl) ?_
  refine lv_iload C.hx C.hb dL_refuses_599 (lv_at hl 7 rfl) ?_
  refine lv_iconst (v := nI 0) C.hx C.hb dL_refuses_601 (by decide +kernel) ?_
  refine lv_iconst (v := nI 0) C.hx C.hb dL_refuses_602 (by decide +kernel) ?_
  refine q_cR (w := 9) (p0 := nI a) (p1 := nI a) (p2 := nI 0) (p3 := nI 0) (r := -7000001) (c2 := 89) (s2 := 534) C hs hP hD hS (ri_block C.htr (notn (by omega))) hl rfl (Nat.le_of_ble_eq_true rfl) ⟨Nat.le_of_ble_eq_true rfl, Nat.le_of_ble_eq_true rfl⟩ ⟨Nat.le_of_ble_eq_true rfl, Nat.le_of_ble_eq_true rfl⟩ ⟨Nat.le_of_ble_eq_true rfl, Nat.le_of_ble_eq_true rfl⟩ dL_refuses_603 (fun g z H locs hs hP hD hS => ?_)
  refine lv_ldc (v := -7000001) C.hx C.hb C.hown (C.hT.use kk_L_90 args) dL_refuses_606 ?_
  refine lv_icmp_ne (tgt := 634) C.hx C.hb dL_refuses_608 (by decide) (fun c9 => absurd c9 (by decide +kernel)) (fun _ => ?_)
  refine lv_iload_n C.hx C.hb dL_refuses_611 rfl (lv_at hl 14 rfl) ?_
  refine lv_if_eq (tgt := 630) C.hx C.hb dL_refuses_612 (by decide) (fun c9 => ?_) (fun c9 => ?_)
  · refine W.widen (k := 90) (n := 540) (Nat.le_of_ble_eq_true rfl) (Nat.le_of_ble_eq_true rfl) ?_
    exact kk g z H locs ls hs hP hD hS hl
  · have ha0 : 0 < a := Nat.pos_of_ne_zero (fun q => c9 (by rw [q]; rfl))
    have hb0 : 0 < b := hab ha0
    refine lv_aload_n C.hx C.hb dL_refuses_615 rfl (lv_at hl 13 rfl) ?_
    refine lv_iload C.hx C.hb dL_refuses_616 (lv_at hl 3 rfl) ?_
    refine lv_iconst (v := nI 0) C.hx C.hb dL_refuses_618 (by decide +kernel) ?_
    refine lv_iconst (v := nI 0) C.hx C.hb dL_refuses_619 (by decide +kernel) ?_
    refine lv_iconst (v := nI 0) C.hx C.hb dL_refuses_620 (by decide +kernel) ?_
    refine lv_iconst (v := nI 0) C.hx C.hb dL_refuses_621 (by decide +kernel) ?_
    refine q_cR (w := 9) (p0 := nI 0) (p1 := nI 0) (p2 := nI 0) (p3 := nI 0) (r := -7000002) (c2 := 90) (s2 := 540) C hs hP hD hS (rs_block C.htr (q_r_nI (by omega))) hl rfl (Nat.le_of_ble_eq_true rfl) ⟨Nat.le_of_ble_eq_true rfl, Nat.le_of_ble_eq_true rfl⟩ ⟨Nat.le_of_ble_eq_true rfl, Nat.le_of_ble_eq_true rfl⟩ ⟨Nat.le_of_ble_eq_true rfl, Nat.le_of_ble_eq_true rfl⟩ dL_refuses_622 (fun g z H locs hs hP hD hS => ?_)
    refine lv_ldc (v := -7000002) C.hx C.hb C.hown (C.hT.use kk_L_93 args) dL_refuses_625 ?_
    refine lv_icmp_ne (tgt := 634) C.hx C.hb dL_refuses_627 (by decide) (fun c9 => absurd c9 (by decide +kernel)) (fun _ => ?_)
    exact kk g z H locs ls hs hP hD hS hl

set_option maxRecDepth 100000 in
set_option maxHeartbeats 4000000 in
theorem tf_39 {p : Program} {l : Launch} {e : Env} {s : State} {m : MethodId} {args : Array Value} {below : List Frame} {meth : Method} {c : Code} {D : va_G} {cA : ClassId} {A : Nat → Prop} {ad : Nat → Nat} {Q : State → Prop} {g0 : Nat → Nat → Int32} {a t b : Nat} (ha : a ≤ 16) (hb9 : b ≤ 40) (hab : 0 < a → 0 < b) (C : lcx p l s m c cL_refuses 16 D cA A) (kk : ∀ (g : Nat → Nat → Int32) (z : Nat → Nat) (H : Heap) (locs : List Loc) (ls : Array Slot), SR g0 a t b g z → va_P D vwCl (rlW cA ad g z) H → va_D A (rlW cA ad g z) → va_S A s.heap H locs → lv_has ls 16 [(12, .int (nI 1)), (15, .int (nI 1)), (14, .int (nI 1)), (13, .int (nI 10)), (11, .int (nI 10)), (10, .int (nI 8)), (9, .int (nI b)), (8, .int (nI a)), (7, .int (-2147483648)), (6, .int (-2147483648)), (5, .int (nI 1)), (4, .int (nI (dfO g0 a a))), (3, .int (nI 2147483647)), (0, .ref (ad 70)), (1, .int (nI a)), (2, .int (nI b))] → W p l e rm_Lr s m args below meth c H locs 91 546 Q (F0 m 577 ls [])) : ∀ (g : Nat → Nat → Int32) (z : Nat → Nat) (H : Heap) (locs : List Loc) (ls : Array Slot), SR g0 a t b g z → va_P D vwCl (rlW cA ad g z) H → va_D A (rlW cA ad g z) → va_S A s.heap H locs → lv_has ls 16 [(12, .int (nI 1)), (15, .int (nI 1)), (14, .int (nI 1)), (13, .int (nI 9)), (11, .int (nI 10)), (10, .int (nI 8)), (9, .int (nI b)), (8, .int (nI a)), (7, .int (-2147483648)), (6, .int (-2147483648)), (5, .int (nI 1)), (4, .int (nI (dfO g0 a a))), (3, .int (nI 2147483647)), (0, .ref (ad 70)), (1, .int (nI a)), (2, .int (nI b))] → W p l e rm_Lr s m args below meth c H locs 90 540 Q (F0 m 630 ls []) := by
  intro g z H locs ls hs hP hD hS hl
  refine lv_iconst (v := nI 1) C.hx C.hb dL_refuses_630 (by decide +kernel) ?_
  refine lv_goto (tgt := 635) C.hx C.hb dL_refuses_631 (by decide) ?_
  refine lv_istore (lv' := [(12, .int (nI 1)), (15, .int (nI 1)), (14, .int (nI 1)), (13, .int (nI 9)), (11, .int (nI 10)), (10, .int (nI 8)), (9, .int (nI b)), (8, .int (nI a)), (7, .int (-2147483648)), (6, .int (-2147483648)), (5, .int (nI 1)), (4, .int (nI (dfO g0 a a))), (3, .int (nI 2147483647)), (0, .ref (ad 70)), (1, .int (nI a)), (2, .int (nI b))]) C.hx C.hb dL_refuses_635 hl (by decide) rfl (fun ls hl => ?_)
  refine lv_iload C.hx C.hb dL_refuses_637 (lv_at hl 3 rfl) ?_
  refine lv_bipush (v := nI 15) C.hx C.hb dL_refuses_639 (by decide +kernel) ?_
  refine lv_icmp_eq (tgt := 658) C.hx C.hb dL_refuses_641 (by decide) (fun c9 => absurd c9 (by decide +kernel)) (fun _ => ?_)
  refine lv_iload C.hx C.hb dL_refuses_644 (lv_at hl 3 rfl) ?_
  refine lv_bipush (v := nI 16) C.hx C.hb dL_refuses_646 (by decide +kernel) ?_
  refine lv_icmp_eq (tgt := 658) C.hx C.hb dL_refuses_648 (by decide) (fun c9 => absurd c9 (by decide +kernel)) (fun _ => ?_)
  refine lv_iload C.hx C.hb dL_refuses_651 (lv_at hl 3 rfl) ?_
  refine lv_bipush (v := nI 18) C.hx C.hb dL_refuses_653 (by decide +kernel) ?_
  refine lv_icmp_ne (tgt := 681) C.hx C.hb dL_refuses_655 (by decide) (fun _ => ?_) (fun c9 => absurd c9 (by decide +kernel))
  refine lv_iinc (v := nI 10) (lv' := [(13, .int (nI 10)), (12, .int (nI 1)), (15, .int (nI 1)), (14, .int (nI 1)), (11, .int (nI 10)), (10, .int (nI 8)), (9, .int (nI b)), (8, .int (nI a)), (7, .int (-2147483648)), (6, .int (-2147483648)), (5, .int (nI 1)), (4, .int (nI (dfO g0 a a))), (3, .int (nI 2147483647)), (0, .ref (ad 70)), (1, .int (nI a)), (2, .int (nI b))]) C.hx C.hb dL_refuses_681 hl (k := 3) rfl (by decide +kernel) (by decide) rfl (fun ls hl => ?_)
  refine lv_goto (tgt := 459) C.hx C.hb dL_refuses_684 (by decide) ?_
  refine lv_iload C.hx C.hb dL_refuses_459 (lv_at hl 0 rfl) ?_
  refine lv_bipush (v := nI 20) C.hx C.hb dL_refuses_461 (by decide +kernel) ?_
  refine lv_icmp_ge (tgt := 687) C.hx C.hb dL_refuses_463 (by decide) (fun c9 => absurd c9 (by decide +kernel)) (fun _ => ?_)
  refine lv_iload C.hx C.hb dL_refuses_466 (lv_at hl 1 rfl) ?_
  refine lv_if_eq (tgt := 687) C.hx C.hb dL_refuses_468 (by decide) (fun c9 => absurd c9 (by decide +kernel)) (fun _ => ?_)
  refine lv_iload C.hx C.hb dL_refuses_471 (lv_at hl 0 rfl) ?_
  refine lv_iconst (v := nI 4) C.hx C.hb dL_refuses_473 (by decide +kernel) ?_
  refine lv_icmp_lt (tgt := 497) C.hx C.hb dL_refuses_474 (by decide) (fun c9 => absurd c9 (by decide +kernel)) (fun _ => ?_)
  refine lv_iload C.hx C.hb dL_refuses_477 (lv_at hl 0 rfl) ?_
  refine lv_iconst (v := nI 5) C.hx C.hb dL_refuses_479 (by decide +kernel) ?_
  refine lv_icmp_le (tgt := 490) C.hx C.hb dL_refuses_480 (by decide) (fun c9 => absurd c9 (by decide +kernel)) (fun _ => ?_)
  refine lv_iload C.hx C.hb dL_refuses_483 (lv_at hl 0 rfl) ?_
  refine lv_bipush (v := nI 15) C.hx C.hb dL_refuses_485 (by decide +kernel) ?_
  refine lv_icmp_lt (tgt := 497) C.hx C.hb dL_refuses_487 (by decide) (fun _ => ?_) (fun c9 => absurd c9 (by decide +kernel))
  refine lv_iconst (v := nI 1) C.hx C.hb dL_refuses_497 (by decide +kernel) ?_
  refine lv_goto (tgt := 502) C.hx C.hb dL_refuses_498 (by decide) ?_
  refine lv_istore (lv' := [(14, .int (nI 1)), (13, .int (nI 10)), (12, .int (nI 1)), (15, .int (nI 1)), (11, .int (nI 10)), (10, .int (nI 8)), (9, .int (nI b)), (8, .int (nI a)), (7, .int (-2147483648)), (6, .int (-2147483648)), (5, .int (nI 1)), (4, .int (nI (dfO g0 a a))), (3, .int (nI 2147483647)), (0, .ref (ad 70)), (1, .int (nI a)), (2, .int (nI b))]) C.hx C.hb dL_refuses_502 hl (by decide) rfl (fun ls hl => ?_)
  refine lv_iload C.hx C.hb dL_refuses_504 (lv_at hl 1 rfl) ?_
  refine lv_iconst (v := nI 3) C.hx C.hb dL_refuses_506 (by decide +kernel) ?_
  refine lv_icmp_eq (tgt := 531) C.hx C.hb dL_refuses_507 (by decide) (fun c9 => absurd c9 (by decide +kernel)) (fun _ => ?_)
  refine lv_iload C.hx C.hb dL_refuses_510 (lv_at hl 1 rfl) ?_
  refine lv_bipush (v := nI 7) C.hx C.hb dL_refuses_512 (by decide +kernel) ?_
  refine lv_icmp_le (tgt := 524) C.hx C.hb dL_refuses_514 (by decide) (fun c9 => absurd c9 (by decide +kernel)) (fun _ => ?_)
  refine lv_iload C.hx C.hb dL_refuses_517 (lv_at hl 1 rfl) ?_
  refine lv_bipush (v := nI 13) C.hx C.hb dL_refuses_519 (by decide +kernel) ?_
  refine lv_icmp_lt (tgt := 531) C.hx C.hb dL_refuses_521 (by decide) (fun _ => ?_) (fun c9 => absurd c9 (by decide +kernel))
  refine lv_iconst (v := nI 1) C.hx C.hb dL_refuses_531 (by decide +kernel) ?_
  refine lv_goto (tgt := 536) C.hx C.hb dL_refuses_532 (by decide) ?_
  refine lv_istore (lv' := [(15, .int (nI 1)), (14, .int (nI 1)), (13, .int (nI 10)), (12, .int (nI 1)), (11, .int (nI 10)), (10, .int (nI 8)), (9, .int (nI b)), (8, .int (nI a)), (7, .int (-2147483648)), (6, .int (-2147483648)), (5, .int (nI 1)), (4, .int (nI (dfO g0 a a))), (3, .int (nI 2147483647)), (0, .ref (ad 70)), (1, .int (nI a)), (2, .int (nI b))]) C.hx C.hb dL_refuses_536 hl (by decide) rfl (fun ls hl => ?_)
  refine lv_iload C.hx C.hb dL_refuses_538 (lv_at hl 1 rfl) ?_
  refine lv_if_eq (tgt := 567) C.hx C.hb dL_refuses_540 (by decide) (fun c9 => absurd c9 (by decide +kernel)) (fun _ => ?_)
  refine lv_aload_n C.hx C.hb dL_refuses_543 rfl (lv_at hl 13 rfl) ?_
  refine lv_iload C.hx C.hb dL_refuses_544 (lv_at hl 2 rfl) ?_
  refine lv_iload C.hx C.hb dL_refuses_546 (lv_at hl 7 rfl) ?_
  refine lv_iconst (v := nI 0) C.hx C.hb dL_refuses_548 (by decide +kernel) ?_
  refine lv_bipush (v := nI 99) C.hx C.hb dL_refuses_549 (by decide +kernel) ?_
  refine lv_iconst (v := nI 0) C.hx C.hb dL_refuses_551 (by decide +kernel) ?_
  refine q_cR (w := 10) (p0 := nI a) (p1 := nI 0) (p2 := nI 99) (p3 := nI 0) (r := -7000001) (c2 := 91) (s2 := 546) C hs hP hD hS (ri_weight C.htr (notn (by omega))) hl rfl (Nat.le_of_ble_eq_true rfl) ⟨Nat.le_of_ble_eq_true rfl, Nat.le_of_ble_eq_true rfl⟩ ⟨Nat.le_of_ble_eq_true rfl, Nat.le_of_ble_eq_true rfl⟩ ⟨Nat.le_of_ble_eq_true rfl, Nat.le_of_ble_eq_true rfl⟩ dL_refuses_552 (fun g z H locs hs hP hD hS => ?_)
  refine lv_ldc (v := -7000001) C.hx C.hb C.hown (C.hT.use kk_L_90 args) dL_refuses_555 ?_
  refine lv_icmp_ne (tgt := 564) C.hx C.hb dL_refuses_557 (by decide) (fun c9 => absurd c9 (by decide +kernel)) (fun _ => ?_)
  refine lv_iconst (v := nI 1) C.hx C.hb dL_refuses_560 (by decide +kernel) ?_
  refine lv_goto (tgt := 565) C.hx C.hb dL_refuses_561 (by decide) ?_
  refine lv_istore (lv' := [(12, .int (nI 1)), (15, .int (nI 1)), (14, .int (nI 1)), (13, .int (nI 10)), (11, .int (nI 10)), (10, .int (nI 8)), (9, .int (nI b)), (8, .int (nI a)), (7, .int (-2147483648)), (6, .int (-2147483648)), (5, .int (nI 1)), (4, .int (nI (dfO g0 a a))), (3, .int (nI 2147483647)), (0, .ref (ad 70)), (1, .int (nI a)), (2, .int (nI b))]) C.hx C.hb dL_refuses_565 hl (by decide) rfl (fun ls hl => ?_)
  refine lv_iload C.hx C.hb dL_refuses_567 (lv_at hl 1 rfl) ?_
  refine lv_if_eq (tgt := 637) C.hx C.hb dL_refuses_569 (by decide) (fun c9 => absurd c9 (by decide +kernel)) (fun _ => ?_)
  refine lv_iload C.hx C.hb dL_refuses_572 (lv_at hl 0 rfl) ?_
  refine lv_if_eq (tgt := 634) C.hx C.hb dL_refuses_574 (by decide) (fun c9 => absurd c9 (by decide +kernel)) (fun _ => ?_)
  exact kk g z H locs ls hs hP hD hS hl

set_option maxRecDepth 100000 in
set_option maxHeartbeats 4000000 in
theorem tf_40 {p : Program} {l : Launch} {e : Env} {s : State} {m : MethodId} {args : Array Value} {below : List Frame} {meth : Method} {c : Code} {D : va_G} {cA : ClassId} {A : Nat → Prop} {ad : Nat → Nat} {Q : State → Prop} {g0 : Nat → Nat → Int32} {a t b : Nat} (ha : a ≤ 16) (hb9 : b ≤ 40) (hab : 0 < a → 0 < b) (C : lcx p l s m c cL_refuses 16 D cA A) (kk : ∀ (g : Nat → Nat → Int32) (z : Nat → Nat) (H : Heap) (locs : List Loc) (ls : Array Slot), SR g0 a t b g z → va_P D vwCl (rlW cA ad g z) H → va_D A (rlW cA ad g z) → va_S A s.heap H locs → lv_has ls 16 [(12, .int (nI 1)), (15, .int (nI 1)), (14, .int (nI 1)), (13, .int (nI 10)), (11, .int (nI 10)), (10, .int (nI 8)), (9, .int (nI b)), (8, .int (nI a)), (7, .int (-2147483648)), (6, .int (-2147483648)), (5, .int (nI 1)), (4, .int (nI (dfO g0 a a))), (3, .int (nI 2147483647)), (0, .ref (ad 70)), (1, .int (nI a)), (2, .int (nI b))] → W p l e rm_Lr s m args below meth c H locs 94 564 Q (F0 m 630 ls [])) : ∀ (g : Nat → Nat → Int32) (z : Nat → Nat) (H : Heap) (locs : List Loc) (ls : Array Slot), SR g0 a t b g z → va_P D vwCl (rlW cA ad g z) H → va_D A (rlW cA ad g z) → va_S A s.heap H locs → lv_has ls 16 [(12, .int (nI 1)), (15, .int (nI 1)), (14, .int (nI 1)), (13, .int (nI 10)), (11, .int (nI 10)), (10, .int (nI 8)), (9, .int (nI b)), (8, .int (nI a)), (7, .int (-2147483648)), (6, .int (-2147483648)), (5, .int (nI 1)), (4, .int (nI (dfO g0 a a))), (3, .int (nI 2147483647)), (0, .ref (ad 70)), (1, .int (nI a)), (2, .int (nI b))] → W p l e rm_Lr s m args below meth c H locs 91 546 Q (F0 m 577 ls []) := by
  intro g z H locs ls hs hP hD hS hl
  refine lv_aload_n C.hx C.hb dL_refuses_577 rfl (lv_at hl 13 rfl) ?_
  refine lv_iload C.hx C.hb dL_refuses_578 (lv_at hl 3 rfl) ?_
  refine lv_iconst (v := nI 0) C.hx C.hb dL_refuses_580 (by decide +kernel) ?_
  refine lv_iload C.hx C.hb dL_refuses_581 (lv_at hl 7 rfl) ?_
  refine lv_bipush (v := nI 99) C.hx C.hb dL_refuses_583 (by decide +kernel) ?_
  refine lv_iconst (v := nI 0) C.hx C.hb dL_refuses_585 (by decide +kernel) ?_
  refine q_cR (w := 10) (p0 := nI 0) (p1 := nI a) (p2 := nI 99) (p3 := nI 0) (r := -7000001) (c2 := 92) (s2 := 552) C hs hP hD hS (rj_weight C.htr (notn (by omega))) hl rfl (Nat.le_of_ble_eq_true rfl) ⟨Nat.le_of_ble_eq_true rfl, Nat.le_of_ble_eq_true rfl⟩ ⟨Nat.le_of_ble_eq_true rfl, Nat.le_of_ble_eq_true rfl⟩ ⟨Nat.le_of_ble_eq_true rfl, Nat.le_of_ble_eq_true rfl⟩ dL_refuses_586 (fun g z H locs hs hP hD hS => ?_)
  refine lv_ldc (v := -7000001) C.hx C.hb C.hown (C.hT.use kk_L_90 args) dL_refuses_589 ?_
  refine lv_icmp_ne (tgt := 634) C.hx C.hb dL_refuses_591 (by decide) (fun c9 => absurd c9 (by decide +kernel)) (fun _ => ?_)
  refine lv_aload_n C.hx C.hb dL_refuses_594 rfl (lv_at hl 13 rfl) ?_
  refine lv_iload C.hx C.hb dL_refuses_595 (lv_at hl 3 rfl) ?_
  refine lv_iload C.hx C.hb dL_refuses_597 (lv_at hl 7 rfl) ?_
  refine lv_iload C.hx C.hb dL_refuses_599 (lv_at hl 7 rfl) ?_
  refine lv_iconst (v := nI 0) C.hx C.hb dL_refuses_601 (by decide +kernel) ?_
  refine lv_iconst (v := nI 0) C.hx C.hb dL_refuses_602 (by decide +kernel) ?_
  refine q_cR (w := 10) (p0 := nI a) (p1 := nI a) (p2 := nI 0) (p3 := nI 0) (r := -7000001) (c2 := 93) (s2 := 558) C hs hP hD hS (ri_weight C.htr (notn (by omega))) hl rfl (Nat.le_of_ble_eq_true rfl) ⟨Nat.le_of_ble_eq_true rfl, Nat.le_of_ble_eq_true rfl⟩ ⟨Nat.le_of_ble_eq_true rfl, Nat.le_of_ble_eq_true rfl⟩ ⟨Nat.le_of_ble_eq_true rfl, Nat.le_of_ble_eq_true rfl⟩ dL_refuses_603 (fun g z H locs hs hP hD hS => ?_)
  refine lv_ldc (v := -7000001) C.hx C.hb C.hown (C.hT.use kk_L_90 args) dL_refuses_606 ?_
  refine lv_icmp_ne (tgt := 634) C.hx C.hb dL_refuses_608 (by decide) (fun c9 => absurd c9 (by decide +kernel)) (fun _ => ?_)
  refine lv_iload_n C.hx C.hb dL_refuses_611 rfl (lv_at hl 14 rfl) ?_
  refine lv_if_eq (tgt := 630) C.hx C.hb dL_refuses_612 (by decide) (fun c9 => ?_) (fun c9 => ?_)
  · refine W.widen (k := 94) (n := 564) (Nat.le_of_ble_eq_true rfl) (Nat.le_of_ble_eq_true rfl) ?_
    exact kk g z H locs ls hs hP hD hS hl
  · have ha0 : 0 < a := Nat.pos_of_ne_zero (fun q => c9 (by rw [q]; rfl))
    have hb0 : 0 < b := hab ha0
    refine lv_aload_n C.hx C.hb dL_refuses_615 rfl (lv_at hl 13 rfl) ?_
    refine lv_iload C.hx C.hb dL_refuses_616 (lv_at hl 3 rfl) ?_
    refine lv_iconst (v := nI 0) C.hx C.hb dL_refuses_618 (by decide +kernel) ?_
    refine lv_iconst (v := nI 0) C.hx C.hb dL_refuses_619 (by decide +kernel) ?_
    refine lv_iconst (v := nI 0) C.hx C.hb dL_refuses_620 (by decide +kernel) ?_
    refine lv_iconst (v := nI 0) C.hx C.hb dL_refuses_621 (by decide +kernel) ?_
    refine q_cR (w := 10) (p0 := nI 0) (p1 := nI 0) (p2 := nI 0) (p3 := nI 0) (r := -7000002) (c2 := 94) (s2 := 564) C hs hP hD hS (rs_weight C.htr (q_r_nI (by omega))) hl rfl (Nat.le_of_ble_eq_true rfl) ⟨Nat.le_of_ble_eq_true rfl, Nat.le_of_ble_eq_true rfl⟩ ⟨Nat.le_of_ble_eq_true rfl, Nat.le_of_ble_eq_true rfl⟩ ⟨Nat.le_of_ble_eq_true rfl, Nat.le_of_ble_eq_true rfl⟩ dL_refuses_622 (fun g z H locs hs hP hD hS => ?_)
    refine lv_ldc (v := -7000002) C.hx C.hb C.hown (C.hT.use kk_L_93 args) dL_refuses_625 ?_
    refine lv_icmp_ne (tgt := 634) C.hx C.hb dL_refuses_627 (by decide) (fun c9 => absurd c9 (by decide +kernel)) (fun _ => ?_)
    exact kk g z H locs ls hs hP hD hS hl

set_option maxRecDepth 100000 in
set_option maxHeartbeats 4000000 in
theorem tf_41 {p : Program} {l : Launch} {e : Env} {s : State} {m : MethodId} {args : Array Value} {below : List Frame} {meth : Method} {c : Code} {D : va_G} {cA : ClassId} {A : Nat → Prop} {ad : Nat → Nat} {Q : State → Prop} {g0 : Nat → Nat → Int32} {a t b : Nat} (ha : a ≤ 16) (hb9 : b ≤ 40) (hab : 0 < a → 0 < b) (C : lcx p l s m c cL_refuses 16 D cA A) (kk : ∀ (g : Nat → Nat → Int32) (z : Nat → Nat) (H : Heap) (locs : List Loc) (ls : Array Slot), SR g0 a t b g z → va_P D vwCl (rlW cA ad g z) H → va_D A (rlW cA ad g z) → va_S A s.heap H locs → lv_has ls 16 [(12, .int (nI 1)), (15, .int (nI 1)), (14, .int (nI 1)), (13, .int (nI 11)), (11, .int (nI 10)), (10, .int (nI 8)), (9, .int (nI b)), (8, .int (nI a)), (7, .int (-2147483648)), (6, .int (-2147483648)), (5, .int (nI 1)), (4, .int (nI (dfO g0 a a))), (3, .int (nI 2147483647)), (0, .ref (ad 70)), (1, .int (nI a)), (2, .int (nI b))] → W p l e rm_Lr s m args below meth c H locs 95 570 Q (F0 m 577 ls [])) : ∀ (g : Nat → Nat → Int32) (z : Nat → Nat) (H : Heap) (locs : List Loc) (ls : Array Slot), SR g0 a t b g z → va_P D vwCl (rlW cA ad g z) H → va_D A (rlW cA ad g z) → va_S A s.heap H locs → lv_has ls 16 [(12, .int (nI 1)), (15, .int (nI 1)), (14, .int (nI 1)), (13, .int (nI 10)), (11, .int (nI 10)), (10, .int (nI 8)), (9, .int (nI b)), (8, .int (nI a)), (7, .int (-2147483648)), (6, .int (-2147483648)), (5, .int (nI 1)), (4, .int (nI (dfO g0 a a))), (3, .int (nI 2147483647)), (0, .ref (ad 70)), (1, .int (nI a)), (2, .int (nI b))] → W p l e rm_Lr s m args below meth c H locs 94 564 Q (F0 m 630 ls []) := by
  intro g z H locs ls hs hP hD hS hl
  refine lv_iconst (v := nI 1) C.hx C.hb dL_refuses_630 (by decide +kernel) ?_
  refine lv_goto (tgt := 635) C.hx C.hb dL_refuses_631 (by decide) ?_
  refine lv_istore (lv' := [(12, .int (nI 1)), (15, .int (nI 1)), (14, .int (nI 1)), (13, .int (nI 10)), (11, .int (nI 10)), (10, .int (nI 8)), (9, .int (nI b)), (8, .int (nI a)), (7, .int (-2147483648)), (6, .int (-2147483648)), (5, .int (nI 1)), (4, .int (nI (dfO g0 a a))), (3, .int (nI 2147483647)), (0, .ref (ad 70)), (1, .int (nI a)), (2, .int (nI b))]) C.hx C.hb dL_refuses_635 hl (by decide) rfl (fun ls hl => ?_)
  refine lv_iload C.hx C.hb dL_refuses_637 (lv_at hl 3 rfl) ?_
  refine lv_bipush (v := nI 15) C.hx C.hb dL_refuses_639 (by decide +kernel) ?_
  refine lv_icmp_eq (tgt := 658) C.hx C.hb dL_refuses_641 (by decide) (fun c9 => absurd c9 (by decide +kernel)) (fun _ => ?_)
  refine lv_iload C.hx C.hb dL_refuses_644 (lv_at hl 3 rfl) ?_
  refine lv_bipush (v := nI 16) C.hx C.hb dL_refuses_646 (by decide +kernel) ?_
  refine lv_icmp_eq (tgt := 658) C.hx C.hb dL_refuses_648 (by decide) (fun c9 => absurd c9 (by decide +kernel)) (fun _ => ?_)
  refine lv_iload C.hx C.hb dL_refuses_651 (lv_at hl 3 rfl) ?_
  refine lv_bipush (v := nI 18) C.hx C.hb dL_refuses_653 (by decide +kernel) ?_
  refine lv_icmp_ne (tgt := 681) C.hx C.hb dL_refuses_655 (by decide) (fun _ => ?_) (fun c9 => absurd c9 (by decide +kernel))
  refine lv_iinc (v := nI 11) (lv' := [(13, .int (nI 11)), (12, .int (nI 1)), (15, .int (nI 1)), (14, .int (nI 1)), (11, .int (nI 10)), (10, .int (nI 8)), (9, .int (nI b)), (8, .int (nI a)), (7, .int (-2147483648)), (6, .int (-2147483648)), (5, .int (nI 1)), (4, .int (nI (dfO g0 a a))), (3, .int (nI 2147483647)), (0, .ref (ad 70)), (1, .int (nI a)), (2, .int (nI b))]) C.hx C.hb dL_refuses_681 hl (k := 3) rfl (by decide +kernel) (by decide) rfl (fun ls hl => ?_)
  refine lv_goto (tgt := 459) C.hx C.hb dL_refuses_684 (by decide) ?_
  refine lv_iload C.hx C.hb dL_refuses_459 (lv_at hl 0 rfl) ?_
  refine lv_bipush (v := nI 20) C.hx C.hb dL_refuses_461 (by decide +kernel) ?_
  refine lv_icmp_ge (tgt := 687) C.hx C.hb dL_refuses_463 (by decide) (fun c9 => absurd c9 (by decide +kernel)) (fun _ => ?_)
  refine lv_iload C.hx C.hb dL_refuses_466 (lv_at hl 1 rfl) ?_
  refine lv_if_eq (tgt := 687) C.hx C.hb dL_refuses_468 (by decide) (fun c9 => absurd c9 (by decide +kernel)) (fun _ => ?_)
  refine lv_iload C.hx C.hb dL_refuses_471 (lv_at hl 0 rfl) ?_
  refine lv_iconst (v := nI 4) C.hx C.hb dL_refuses_473 (by decide +kernel) ?_
  refine lv_icmp_lt (tgt := 497) C.hx C.hb dL_refuses_474 (by decide) (fun c9 => absurd c9 (by decide +kernel)) (fun _ => ?_)
  refine lv_iload C.hx C.hb dL_refuses_477 (lv_at hl 0 rfl) ?_
  refine lv_iconst (v := nI 5) C.hx C.hb dL_refuses_479 (by decide +kernel) ?_
  refine lv_icmp_le (tgt := 490) C.hx C.hb dL_refuses_480 (by decide) (fun c9 => absurd c9 (by decide +kernel)) (fun _ => ?_)
  refine lv_iload C.hx C.hb dL_refuses_483 (lv_at hl 0 rfl) ?_
  refine lv_bipush (v := nI 15) C.hx C.hb dL_refuses_485 (by decide +kernel) ?_
  refine lv_icmp_lt (tgt := 497) C.hx C.hb dL_refuses_487 (by decide) (fun _ => ?_) (fun c9 => absurd c9 (by decide +kernel))
  refine lv_iconst (v := nI 1) C.hx C.hb dL_refuses_497 (by decide +kernel) ?_
  refine lv_goto (tgt := 502) C.hx C.hb dL_refuses_498 (by decide) ?_
  refine lv_istore (lv' := [(14, .int (nI 1)), (13, .int (nI 11)), (12, .int (nI 1)), (15, .int (nI 1)), (11, .int (nI 10)), (10, .int (nI 8)), (9, .int (nI b)), (8, .int (nI a)), (7, .int (-2147483648)), (6, .int (-2147483648)), (5, .int (nI 1)), (4, .int (nI (dfO g0 a a))), (3, .int (nI 2147483647)), (0, .ref (ad 70)), (1, .int (nI a)), (2, .int (nI b))]) C.hx C.hb dL_refuses_502 hl (by decide) rfl (fun ls hl => ?_)
  refine lv_iload C.hx C.hb dL_refuses_504 (lv_at hl 1 rfl) ?_
  refine lv_iconst (v := nI 3) C.hx C.hb dL_refuses_506 (by decide +kernel) ?_
  refine lv_icmp_eq (tgt := 531) C.hx C.hb dL_refuses_507 (by decide) (fun c9 => absurd c9 (by decide +kernel)) (fun _ => ?_)
  refine lv_iload C.hx C.hb dL_refuses_510 (lv_at hl 1 rfl) ?_
  refine lv_bipush (v := nI 7) C.hx C.hb dL_refuses_512 (by decide +kernel) ?_
  refine lv_icmp_le (tgt := 524) C.hx C.hb dL_refuses_514 (by decide) (fun c9 => absurd c9 (by decide +kernel)) (fun _ => ?_)
  refine lv_iload C.hx C.hb dL_refuses_517 (lv_at hl 1 rfl) ?_
  refine lv_bipush (v := nI 13) C.hx C.hb dL_refuses_519 (by decide +kernel) ?_
  refine lv_icmp_lt (tgt := 531) C.hx C.hb dL_refuses_521 (by decide) (fun _ => ?_) (fun c9 => absurd c9 (by decide +kernel))
  refine lv_iconst (v := nI 1) C.hx C.hb dL_refuses_531 (by decide +kernel) ?_
  refine lv_goto (tgt := 536) C.hx C.hb dL_refuses_532 (by decide) ?_
  refine lv_istore (lv' := [(15, .int (nI 1)), (14, .int (nI 1)), (13, .int (nI 11)), (12, .int (nI 1)), (11, .int (nI 10)), (10, .int (nI 8)), (9, .int (nI b)), (8, .int (nI a)), (7, .int (-2147483648)), (6, .int (-2147483648)), (5, .int (nI 1)), (4, .int (nI (dfO g0 a a))), (3, .int (nI 2147483647)), (0, .ref (ad 70)), (1, .int (nI a)), (2, .int (nI b))]) C.hx C.hb dL_refuses_536 hl (by decide) rfl (fun ls hl => ?_)
  refine lv_iload C.hx C.hb dL_refuses_538 (lv_at hl 1 rfl) ?_
  refine lv_if_eq (tgt := 567) C.hx C.hb dL_refuses_540 (by decide) (fun c9 => absurd c9 (by decide +kernel)) (fun _ => ?_)
  refine lv_aload_n C.hx C.hb dL_refuses_543 rfl (lv_at hl 13 rfl) ?_
  refine lv_iload C.hx C.hb dL_refuses_544 (lv_at hl 2 rfl) ?_
  refine lv_iload C.hx C.hb dL_refuses_546 (lv_at hl 7 rfl) ?_
  refine lv_iconst (v := nI 0) C.hx C.hb dL_refuses_548 (by decide +kernel) ?_
  refine lv_bipush (v := nI 99) C.hx C.hb dL_refuses_549 (by decide +kernel) ?_
  refine lv_iconst (v := nI 0) C.hx C.hb dL_refuses_551 (by decide +kernel) ?_
  refine q_cR (w := 11) (p0 := nI a) (p1 := nI 0) (p2 := nI 99) (p3 := nI 0) (r := -7000001) (c2 := 95) (s2 := 570) C hs hP hD hS (ri_whyNot C.htr (notn (by omega))) hl rfl (Nat.le_of_ble_eq_true rfl) ⟨Nat.le_of_ble_eq_true rfl, Nat.le_of_ble_eq_true rfl⟩ ⟨Nat.le_of_ble_eq_true rfl, Nat.le_of_ble_eq_true rfl⟩ ⟨Nat.le_of_ble_eq_true rfl, Nat.le_of_ble_eq_true rfl⟩ dL_refuses_552 (fun g z H locs hs hP hD hS => ?_)
  refine lv_ldc (v := -7000001) C.hx C.hb C.hown (C.hT.use kk_L_90 args) dL_refuses_555 ?_
  refine lv_icmp_ne (tgt := 564) C.hx C.hb dL_refuses_557 (by decide) (fun c9 => absurd c9 (by decide +kernel)) (fun _ => ?_)
  refine lv_iconst (v := nI 1) C.hx C.hb dL_refuses_560 (by decide +kernel) ?_
  refine lv_goto (tgt := 565) C.hx C.hb dL_refuses_561 (by decide) ?_
  refine lv_istore (lv' := [(12, .int (nI 1)), (15, .int (nI 1)), (14, .int (nI 1)), (13, .int (nI 11)), (11, .int (nI 10)), (10, .int (nI 8)), (9, .int (nI b)), (8, .int (nI a)), (7, .int (-2147483648)), (6, .int (-2147483648)), (5, .int (nI 1)), (4, .int (nI (dfO g0 a a))), (3, .int (nI 2147483647)), (0, .ref (ad 70)), (1, .int (nI a)), (2, .int (nI b))]) C.hx C.hb dL_refuses_565 hl (by decide) rfl (fun ls hl => ?_)
  refine lv_iload C.hx C.hb dL_refuses_567 (lv_at hl 1 rfl) ?_
  refine lv_if_eq (tgt := 637) C.hx C.hb dL_refuses_569 (by decide) (fun c9 => absurd c9 (by decide +kernel)) (fun _ => ?_)
  refine lv_iload C.hx C.hb dL_refuses_572 (lv_at hl 0 rfl) ?_
  refine lv_if_eq (tgt := 634) C.hx C.hb dL_refuses_574 (by decide) (fun c9 => absurd c9 (by decide +kernel)) (fun _ => ?_)
  exact kk g z H locs ls hs hP hD hS hl

set_option maxRecDepth 100000 in
set_option maxHeartbeats 4000000 in
theorem tf_42 {p : Program} {l : Launch} {e : Env} {s : State} {m : MethodId} {args : Array Value} {below : List Frame} {meth : Method} {c : Code} {D : va_G} {cA : ClassId} {A : Nat → Prop} {ad : Nat → Nat} {Q : State → Prop} {g0 : Nat → Nat → Int32} {a t b : Nat} (ha : a ≤ 16) (hb9 : b ≤ 40) (hab : 0 < a → 0 < b) (C : lcx p l s m c cL_refuses 16 D cA A) (kk : ∀ (g : Nat → Nat → Int32) (z : Nat → Nat) (H : Heap) (locs : List Loc) (ls : Array Slot), SR g0 a t b g z → va_P D vwCl (rlW cA ad g z) H → va_D A (rlW cA ad g z) → va_S A s.heap H locs → lv_has ls 16 [(12, .int (nI 1)), (15, .int (nI 1)), (14, .int (nI 1)), (13, .int (nI 11)), (11, .int (nI 10)), (10, .int (nI 8)), (9, .int (nI b)), (8, .int (nI a)), (7, .int (-2147483648)), (6, .int (-2147483648)), (5, .int (nI 1)), (4, .int (nI (dfO g0 a a))), (3, .int (nI 2147483647)), (0, .ref (ad 70)), (1, .int (nI a)), (2, .int (nI b))] → W p l e rm_Lr s m args below meth c H locs 98 588 Q (F0 m 630 ls [])) : ∀ (g : Nat → Nat → Int32) (z : Nat → Nat) (H : Heap) (locs : List Loc) (ls : Array Slot), SR g0 a t b g z → va_P D vwCl (rlW cA ad g z) H → va_D A (rlW cA ad g z) → va_S A s.heap H locs → lv_has ls 16 [(12, .int (nI 1)), (15, .int (nI 1)), (14, .int (nI 1)), (13, .int (nI 11)), (11, .int (nI 10)), (10, .int (nI 8)), (9, .int (nI b)), (8, .int (nI a)), (7, .int (-2147483648)), (6, .int (-2147483648)), (5, .int (nI 1)), (4, .int (nI (dfO g0 a a))), (3, .int (nI 2147483647)), (0, .ref (ad 70)), (1, .int (nI a)), (2, .int (nI b))] → W p l e rm_Lr s m args below meth c H locs 95 570 Q (F0 m 577 ls []) := by
  intro g z H locs ls hs hP hD hS hl
  refine lv_aload_n C.hx C.hb dL_refuses_577 rfl (lv_at hl 13 rfl) ?_
  refine lv_iload C.hx C.hb dL_refuses_578 (lv_at hl 3 rfl) ?_
  refine lv_iconst (v := nI 0) C.hx C.hb dL_refuses_580 (by decide +kernel) ?_
  refine lv_iload C.hx C.hb dL_refuses_581 (lv_at hl 7 rfl) ?_
  refine lv_bipush (v := nI 99) C.hx C.hb dL_refuses_583 (by decide +kernel) ?_
  refine lv_iconst (v := nI 0) C.hx C.hb dL_refuses_585 (by decide +kernel) ?_
  refine q_cR (w := 11) (p0 := nI 0) (p1 := nI a) (p2 := nI 99) (p3 := nI 0) (r := -7000001) (c2 := 96) (s2 := 576) C hs hP hD hS (rj_whyNot C.htr (notn (by omega))) hl rfl (Nat.le_of_ble_eq_true rfl) ⟨Nat.le_of_ble_eq_true rfl, Nat.le_of_ble_eq_true rfl⟩ ⟨Nat.le_of_ble_eq_true rfl, Nat.le_of_ble_eq_true rfl⟩ ⟨Nat.le_of_ble_eq_true rfl, Nat.le_of_ble_eq_true rfl⟩ dL_refuses_586 (fun g z H locs hs hP hD hS => ?_)
  refine lv_ldc (v := -7000001) C.hx C.hb C.hown (C.hT.use kk_L_90 args) dL_refuses_589 ?_
  refine lv_icmp_ne (tgt := 634) C.hx C.hb dL_refuses_591 (by decide) (fun c9 => absurd c9 (by decide +kernel)) (fun _ => ?_)
  refine lv_aload_n C.hx C.hb dL_refuses_594 rfl (lv_at hl 13 rfl) ?_
  refine lv_iload C.hx C.hb dL_refuses_595 (lv_at hl 3 rfl) ?_
  refine lv_iload C.hx C.hb dL_refuses_597 (lv_at hl 7 rfl) ?_
  refine lv_iload C.hx C.hb dL_refuses_599 (lv_at hl 7 rfl) ?_
  refine lv_iconst (v := nI 0) C.hx C.hb dL_refuses_601 (by decide +kernel) ?_
  refine lv_iconst (v := nI 0) C.hx C.hb dL_refuses_602 (by decide +kernel) ?_
  refine q_cR (w := 11) (p0 := nI a) (p1 := nI a) (p2 := nI 0) (p3 := nI 0) (r := -7000001) (c2 := 97) (s2 := 582) C hs hP hD hS (ri_whyNot C.htr (notn (by omega))) hl rfl (Nat.le_of_ble_eq_true rfl) ⟨Nat.le_of_ble_eq_true rfl, Nat.le_of_ble_eq_true rfl⟩ ⟨Nat.le_of_ble_eq_true rfl, Nat.le_of_ble_eq_true rfl⟩ ⟨Nat.le_of_ble_eq_true rfl, Nat.le_of_ble_eq_true rfl⟩ dL_refuses_603 (fun g z H locs hs hP hD hS => ?_)
  refine lv_ldc (v := -7000001) C.hx C.hb C.hown (C.hT.use kk_L_90 args) dL_refuses_606 ?_
  refine lv_icmp_ne (tgt := 634) C.hx C.hb dL_refuses_608 (by decide) (fun c9 => absurd c9 (by decide +kernel)) (fun _ => ?_)
  refine lv_iload_n C.hx C.hb dL_refuses_611 rfl (lv_at hl 14 rfl) ?_
  refine lv_if_eq (tgt := 630) C.hx C.hb dL_refuses_612 (by decide) (fun c9 => ?_) (fun c9 => ?_)
  · refine W.widen (k := 98) (n := 588) (Nat.le_of_ble_eq_true rfl) (Nat.le_of_ble_eq_true rfl) ?_
    exact kk g z H locs ls hs hP hD hS hl
  · have ha0 : 0 < a := Nat.pos_of_ne_zero (fun q => c9 (by rw [q]; rfl))
    have hb0 : 0 < b := hab ha0
    refine lv_aload_n C.hx C.hb dL_refuses_615 rfl (lv_at hl 13 rfl) ?_
    refine lv_iload C.hx C.hb dL_refuses_616 (lv_at hl 3 rfl) ?_
    refine lv_iconst (v := nI 0) C.hx C.hb dL_refuses_618 (by decide +kernel) ?_
    refine lv_iconst (v := nI 0) C.hx C.hb dL_refuses_619 (by decide +kernel) ?_
    refine lv_iconst (v := nI 0) C.hx C.hb dL_refuses_620 (by decide +kernel) ?_
    refine lv_iconst (v := nI 0) C.hx C.hb dL_refuses_621 (by decide +kernel) ?_
    refine q_cR (w := 11) (p0 := nI 0) (p1 := nI 0) (p2 := nI 0) (p3 := nI 0) (r := -7000002) (c2 := 98) (s2 := 588) C hs hP hD hS (rs_whyNot C.htr (q_r_nI (by omega))) hl rfl (Nat.le_of_ble_eq_true rfl) ⟨Nat.le_of_ble_eq_true rfl, Nat.le_of_ble_eq_true rfl⟩ ⟨Nat.le_of_ble_eq_true rfl, Nat.le_of_ble_eq_true rfl⟩ ⟨Nat.le_of_ble_eq_true rfl, Nat.le_of_ble_eq_true rfl⟩ dL_refuses_622 (fun g z H locs hs hP hD hS => ?_)
    refine lv_ldc (v := -7000002) C.hx C.hb C.hown (C.hT.use kk_L_93 args) dL_refuses_625 ?_
    refine lv_icmp_ne (tgt := 634) C.hx C.hb dL_refuses_627 (by decide) (fun c9 => absurd c9 (by decide +kernel)) (fun _ => ?_)
    exact kk g z H locs ls hs hP hD hS hl

set_option maxRecDepth 100000 in
set_option maxHeartbeats 4000000 in
theorem tf_43 {p : Program} {l : Launch} {e : Env} {s : State} {m : MethodId} {args : Array Value} {below : List Frame} {meth : Method} {c : Code} {D : va_G} {cA : ClassId} {A : Nat → Prop} {ad : Nat → Nat} {Q : State → Prop} {g0 : Nat → Nat → Int32} {a t b : Nat} (ha : a ≤ 16) (hb9 : b ≤ 40) (hab : 0 < a → 0 < b) (C : lcx p l s m c cL_refuses 16 D cA A) (kk : ∀ (g : Nat → Nat → Int32) (z : Nat → Nat) (H : Heap) (locs : List Loc) (ls : Array Slot), SR g0 a t b g z → va_P D vwCl (rlW cA ad g z) H → va_D A (rlW cA ad g z) → va_S A s.heap H locs → lv_has ls 16 [(12, .int (nI 1)), (15, .int (nI 1)), (14, .int (nI 1)), (13, .int (nI 12)), (11, .int (nI 10)), (10, .int (nI 8)), (9, .int (nI b)), (8, .int (nI a)), (7, .int (-2147483648)), (6, .int (-2147483648)), (5, .int (nI 1)), (4, .int (nI (dfO g0 a a))), (3, .int (nI 2147483647)), (0, .ref (ad 70)), (1, .int (nI a)), (2, .int (nI b))] → W p l e rm_Lr s m args below meth c H locs 99 594 Q (F0 m 577 ls [])) : ∀ (g : Nat → Nat → Int32) (z : Nat → Nat) (H : Heap) (locs : List Loc) (ls : Array Slot), SR g0 a t b g z → va_P D vwCl (rlW cA ad g z) H → va_D A (rlW cA ad g z) → va_S A s.heap H locs → lv_has ls 16 [(12, .int (nI 1)), (15, .int (nI 1)), (14, .int (nI 1)), (13, .int (nI 11)), (11, .int (nI 10)), (10, .int (nI 8)), (9, .int (nI b)), (8, .int (nI a)), (7, .int (-2147483648)), (6, .int (-2147483648)), (5, .int (nI 1)), (4, .int (nI (dfO g0 a a))), (3, .int (nI 2147483647)), (0, .ref (ad 70)), (1, .int (nI a)), (2, .int (nI b))] → W p l e rm_Lr s m args below meth c H locs 98 588 Q (F0 m 630 ls []) := by
  intro g z H locs ls hs hP hD hS hl
  refine lv_iconst (v := nI 1) C.hx C.hb dL_refuses_630 (by decide +kernel) ?_
  refine lv_goto (tgt := 635) C.hx C.hb dL_refuses_631 (by decide) ?_
  refine lv_istore (lv' := [(12, .int (nI 1)), (15, .int (nI 1)), (14, .int (nI 1)), (13, .int (nI 11)), (11, .int (nI 10)), (10, .int (nI 8)), (9, .int (nI b)), (8, .int (nI a)), (7, .int (-2147483648)), (6, .int (-2147483648)), (5, .int (nI 1)), (4, .int (nI (dfO g0 a a))), (3, .int (nI 2147483647)), (0, .ref (ad 70)), (1, .int (nI a)), (2, .int (nI b))]) C.hx C.hb dL_refuses_635 hl (by decide) rfl (fun ls hl => ?_)
  refine lv_iload C.hx C.hb dL_refuses_637 (lv_at hl 3 rfl) ?_
  refine lv_bipush (v := nI 15) C.hx C.hb dL_refuses_639 (by decide +kernel) ?_
  refine lv_icmp_eq (tgt := 658) C.hx C.hb dL_refuses_641 (by decide) (fun c9 => absurd c9 (by decide +kernel)) (fun _ => ?_)
  refine lv_iload C.hx C.hb dL_refuses_644 (lv_at hl 3 rfl) ?_
  refine lv_bipush (v := nI 16) C.hx C.hb dL_refuses_646 (by decide +kernel) ?_
  refine lv_icmp_eq (tgt := 658) C.hx C.hb dL_refuses_648 (by decide) (fun c9 => absurd c9 (by decide +kernel)) (fun _ => ?_)
  refine lv_iload C.hx C.hb dL_refuses_651 (lv_at hl 3 rfl) ?_
  refine lv_bipush (v := nI 18) C.hx C.hb dL_refuses_653 (by decide +kernel) ?_
  refine lv_icmp_ne (tgt := 681) C.hx C.hb dL_refuses_655 (by decide) (fun _ => ?_) (fun c9 => absurd c9 (by decide +kernel))
  refine lv_iinc (v := nI 12) (lv' := [(13, .int (nI 12)), (12, .int (nI 1)), (15, .int (nI 1)), (14, .int (nI 1)), (11, .int (nI 10)), (10, .int (nI 8)), (9, .int (nI b)), (8, .int (nI a)), (7, .int (-2147483648)), (6, .int (-2147483648)), (5, .int (nI 1)), (4, .int (nI (dfO g0 a a))), (3, .int (nI 2147483647)), (0, .ref (ad 70)), (1, .int (nI a)), (2, .int (nI b))]) C.hx C.hb dL_refuses_681 hl (k := 3) rfl (by decide +kernel) (by decide) rfl (fun ls hl => ?_)
  refine lv_goto (tgt := 459) C.hx C.hb dL_refuses_684 (by decide) ?_
  refine lv_iload C.hx C.hb dL_refuses_459 (lv_at hl 0 rfl) ?_
  refine lv_bipush (v := nI 20) C.hx C.hb dL_refuses_461 (by decide +kernel) ?_
  refine lv_icmp_ge (tgt := 687) C.hx C.hb dL_refuses_463 (by decide) (fun c9 => absurd c9 (by decide +kernel)) (fun _ => ?_)
  refine lv_iload C.hx C.hb dL_refuses_466 (lv_at hl 1 rfl) ?_
  refine lv_if_eq (tgt := 687) C.hx C.hb dL_refuses_468 (by decide) (fun c9 => absurd c9 (by decide +kernel)) (fun _ => ?_)
  refine lv_iload C.hx C.hb dL_refuses_471 (lv_at hl 0 rfl) ?_
  refine lv_iconst (v := nI 4) C.hx C.hb dL_refuses_473 (by decide +kernel) ?_
  refine lv_icmp_lt (tgt := 497) C.hx C.hb dL_refuses_474 (by decide) (fun c9 => absurd c9 (by decide +kernel)) (fun _ => ?_)
  refine lv_iload C.hx C.hb dL_refuses_477 (lv_at hl 0 rfl) ?_
  refine lv_iconst (v := nI 5) C.hx C.hb dL_refuses_479 (by decide +kernel) ?_
  refine lv_icmp_le (tgt := 490) C.hx C.hb dL_refuses_480 (by decide) (fun c9 => absurd c9 (by decide +kernel)) (fun _ => ?_)
  refine lv_iload C.hx C.hb dL_refuses_483 (lv_at hl 0 rfl) ?_
  refine lv_bipush (v := nI 15) C.hx C.hb dL_refuses_485 (by decide +kernel) ?_
  refine lv_icmp_lt (tgt := 497) C.hx C.hb dL_refuses_487 (by decide) (fun _ => ?_) (fun c9 => absurd c9 (by decide +kernel))
  refine lv_iconst (v := nI 1) C.hx C.hb dL_refuses_497 (by decide +kernel) ?_
  refine lv_goto (tgt := 502) C.hx C.hb dL_refuses_498 (by decide) ?_
  refine lv_istore (lv' := [(14, .int (nI 1)), (13, .int (nI 12)), (12, .int (nI 1)), (15, .int (nI 1)), (11, .int (nI 10)), (10, .int (nI 8)), (9, .int (nI b)), (8, .int (nI a)), (7, .int (-2147483648)), (6, .int (-2147483648)), (5, .int (nI 1)), (4, .int (nI (dfO g0 a a))), (3, .int (nI 2147483647)), (0, .ref (ad 70)), (1, .int (nI a)), (2, .int (nI b))]) C.hx C.hb dL_refuses_502 hl (by decide) rfl (fun ls hl => ?_)
  refine lv_iload C.hx C.hb dL_refuses_504 (lv_at hl 1 rfl) ?_
  refine lv_iconst (v := nI 3) C.hx C.hb dL_refuses_506 (by decide +kernel) ?_
  refine lv_icmp_eq (tgt := 531) C.hx C.hb dL_refuses_507 (by decide) (fun c9 => absurd c9 (by decide +kernel)) (fun _ => ?_)
  refine lv_iload C.hx C.hb dL_refuses_510 (lv_at hl 1 rfl) ?_
  refine lv_bipush (v := nI 7) C.hx C.hb dL_refuses_512 (by decide +kernel) ?_
  refine lv_icmp_le (tgt := 524) C.hx C.hb dL_refuses_514 (by decide) (fun c9 => absurd c9 (by decide +kernel)) (fun _ => ?_)
  refine lv_iload C.hx C.hb dL_refuses_517 (lv_at hl 1 rfl) ?_
  refine lv_bipush (v := nI 13) C.hx C.hb dL_refuses_519 (by decide +kernel) ?_
  refine lv_icmp_lt (tgt := 531) C.hx C.hb dL_refuses_521 (by decide) (fun _ => ?_) (fun c9 => absurd c9 (by decide +kernel))
  refine lv_iconst (v := nI 1) C.hx C.hb dL_refuses_531 (by decide +kernel) ?_
  refine lv_goto (tgt := 536) C.hx C.hb dL_refuses_532 (by decide) ?_
  refine lv_istore (lv' := [(15, .int (nI 1)), (14, .int (nI 1)), (13, .int (nI 12)), (12, .int (nI 1)), (11, .int (nI 10)), (10, .int (nI 8)), (9, .int (nI b)), (8, .int (nI a)), (7, .int (-2147483648)), (6, .int (-2147483648)), (5, .int (nI 1)), (4, .int (nI (dfO g0 a a))), (3, .int (nI 2147483647)), (0, .ref (ad 70)), (1, .int (nI a)), (2, .int (nI b))]) C.hx C.hb dL_refuses_536 hl (by decide) rfl (fun ls hl => ?_)
  refine lv_iload C.hx C.hb dL_refuses_538 (lv_at hl 1 rfl) ?_
  refine lv_if_eq (tgt := 567) C.hx C.hb dL_refuses_540 (by decide) (fun c9 => absurd c9 (by decide +kernel)) (fun _ => ?_)
  refine lv_aload_n C.hx C.hb dL_refuses_543 rfl (lv_at hl 13 rfl) ?_
  refine lv_iload C.hx C.hb dL_refuses_544 (lv_at hl 2 rfl) ?_
  refine lv_iload C.hx C.hb dL_refuses_546 (lv_at hl 7 rfl) ?_
  refine lv_iconst (v := nI 0) C.hx C.hb dL_refuses_548 (by decide +kernel) ?_
  refine lv_bipush (v := nI 99) C.hx C.hb dL_refuses_549 (by decide +kernel) ?_
  refine lv_iconst (v := nI 0) C.hx C.hb dL_refuses_551 (by decide +kernel) ?_
  refine q_cR (w := 12) (p0 := nI a) (p1 := nI 0) (p2 := nI 99) (p3 := nI 0) (r := -7000001) (c2 := 99) (s2 := 594) C hs hP hD hS (ri_join C.htr (notn (by omega))) hl rfl (Nat.le_of_ble_eq_true rfl) ⟨Nat.le_of_ble_eq_true rfl, Nat.le_of_ble_eq_true rfl⟩ ⟨Nat.le_of_ble_eq_true rfl, Nat.le_of_ble_eq_true rfl⟩ ⟨Nat.le_of_ble_eq_true rfl, Nat.le_of_ble_eq_true rfl⟩ dL_refuses_552 (fun g z H locs hs hP hD hS => ?_)
  refine lv_ldc (v := -7000001) C.hx C.hb C.hown (C.hT.use kk_L_90 args) dL_refuses_555 ?_
  refine lv_icmp_ne (tgt := 564) C.hx C.hb dL_refuses_557 (by decide) (fun c9 => absurd c9 (by decide +kernel)) (fun _ => ?_)
  refine lv_iconst (v := nI 1) C.hx C.hb dL_refuses_560 (by decide +kernel) ?_
  refine lv_goto (tgt := 565) C.hx C.hb dL_refuses_561 (by decide) ?_
  refine lv_istore (lv' := [(12, .int (nI 1)), (15, .int (nI 1)), (14, .int (nI 1)), (13, .int (nI 12)), (11, .int (nI 10)), (10, .int (nI 8)), (9, .int (nI b)), (8, .int (nI a)), (7, .int (-2147483648)), (6, .int (-2147483648)), (5, .int (nI 1)), (4, .int (nI (dfO g0 a a))), (3, .int (nI 2147483647)), (0, .ref (ad 70)), (1, .int (nI a)), (2, .int (nI b))]) C.hx C.hb dL_refuses_565 hl (by decide) rfl (fun ls hl => ?_)
  refine lv_iload C.hx C.hb dL_refuses_567 (lv_at hl 1 rfl) ?_
  refine lv_if_eq (tgt := 637) C.hx C.hb dL_refuses_569 (by decide) (fun c9 => absurd c9 (by decide +kernel)) (fun _ => ?_)
  refine lv_iload C.hx C.hb dL_refuses_572 (lv_at hl 0 rfl) ?_
  refine lv_if_eq (tgt := 634) C.hx C.hb dL_refuses_574 (by decide) (fun c9 => absurd c9 (by decide +kernel)) (fun _ => ?_)
  exact kk g z H locs ls hs hP hD hS hl

set_option maxRecDepth 100000 in
set_option maxHeartbeats 4000000 in
theorem tf_44 {p : Program} {l : Launch} {e : Env} {s : State} {m : MethodId} {args : Array Value} {below : List Frame} {meth : Method} {c : Code} {D : va_G} {cA : ClassId} {A : Nat → Prop} {ad : Nat → Nat} {Q : State → Prop} {g0 : Nat → Nat → Int32} {a t b : Nat} (ha : a ≤ 16) (hb9 : b ≤ 40) (hab : 0 < a → 0 < b) (C : lcx p l s m c cL_refuses 16 D cA A) (kk : ∀ (g : Nat → Nat → Int32) (z : Nat → Nat) (H : Heap) (locs : List Loc) (ls : Array Slot), SR g0 a t b g z → va_P D vwCl (rlW cA ad g z) H → va_D A (rlW cA ad g z) → va_S A s.heap H locs → lv_has ls 16 [(12, .int (nI 1)), (15, .int (nI 1)), (14, .int (nI 1)), (13, .int (nI 12)), (11, .int (nI 10)), (10, .int (nI 8)), (9, .int (nI b)), (8, .int (nI a)), (7, .int (-2147483648)), (6, .int (-2147483648)), (5, .int (nI 1)), (4, .int (nI (dfO g0 a a))), (3, .int (nI 2147483647)), (0, .ref (ad 70)), (1, .int (nI a)), (2, .int (nI b))] → W p l e rm_Lr s m args below meth c H locs 102 612 Q (F0 m 630 ls [])) : ∀ (g : Nat → Nat → Int32) (z : Nat → Nat) (H : Heap) (locs : List Loc) (ls : Array Slot), SR g0 a t b g z → va_P D vwCl (rlW cA ad g z) H → va_D A (rlW cA ad g z) → va_S A s.heap H locs → lv_has ls 16 [(12, .int (nI 1)), (15, .int (nI 1)), (14, .int (nI 1)), (13, .int (nI 12)), (11, .int (nI 10)), (10, .int (nI 8)), (9, .int (nI b)), (8, .int (nI a)), (7, .int (-2147483648)), (6, .int (-2147483648)), (5, .int (nI 1)), (4, .int (nI (dfO g0 a a))), (3, .int (nI 2147483647)), (0, .ref (ad 70)), (1, .int (nI a)), (2, .int (nI b))] → W p l e rm_Lr s m args below meth c H locs 99 594 Q (F0 m 577 ls []) := by
  intro g z H locs ls hs hP hD hS hl
  refine lv_aload_n C.hx C.hb dL_refuses_577 rfl (lv_at hl 13 rfl) ?_
  refine lv_iload C.hx C.hb dL_refuses_578 (lv_at hl 3 rfl) ?_
  refine lv_iconst (v := nI 0) C.hx C.hb dL_refuses_580 (by decide +kernel) ?_
  refine lv_iload C.hx C.hb dL_refuses_581 (lv_at hl 7 rfl) ?_
  refine lv_bipush (v := nI 99) C.hx C.hb dL_refuses_583 (by decide +kernel) ?_
  refine lv_iconst (v := nI 0) C.hx C.hb dL_refuses_585 (by decide +kernel) ?_
  refine q_cR (w := 12) (p0 := nI 0) (p1 := nI a) (p2 := nI 99) (p3 := nI 0) (r := -7000001) (c2 := 100) (s2 := 600) C hs hP hD hS (rj_join C.htr (notn (by omega))) hl rfl (Nat.le_of_ble_eq_true rfl) ⟨Nat.le_of_ble_eq_true rfl, Nat.le_of_ble_eq_true rfl⟩ ⟨Nat.le_of_ble_eq_true rfl, Nat.le_of_ble_eq_true rfl⟩ ⟨Nat.le_of_ble_eq_true rfl, Nat.le_of_ble_eq_true rfl⟩ dL_refuses_586 (fun g z H locs hs hP hD hS => ?_)
  refine lv_ldc (v := -7000001) C.hx C.hb C.hown (C.hT.use kk_L_90 args) dL_refuses_589 ?_
  refine lv_icmp_ne (tgt := 634) C.hx C.hb dL_refuses_591 (by decide) (fun c9 => absurd c9 (by decide +kernel)) (fun _ => ?_)
  refine lv_aload_n C.hx C.hb dL_refuses_594 rfl (lv_at hl 13 rfl) ?_
  refine lv_iload C.hx C.hb dL_refuses_595 (lv_at hl 3 rfl) ?_
  refine lv_iload C.hx C.hb dL_refuses_597 (lv_at hl 7 rfl) ?_
  refine lv_iload C.hx C.hb dL_refuses_599 (lv_at hl 7 rfl) ?_
  refine lv_iconst (v := nI 0) C.hx C.hb dL_refuses_601 (by decide +kernel) ?_
  refine lv_iconst (v := nI 0) C.hx C.hb dL_refuses_602 (by decide +kernel) ?_
  refine q_cR (w := 12) (p0 := nI a) (p1 := nI a) (p2 := nI 0) (p3 := nI 0) (r := -7000001) (c2 := 101) (s2 := 606) C hs hP hD hS (ri_join C.htr (notn (by omega))) hl rfl (Nat.le_of_ble_eq_true rfl) ⟨Nat.le_of_ble_eq_true rfl, Nat.le_of_ble_eq_true rfl⟩ ⟨Nat.le_of_ble_eq_true rfl, Nat.le_of_ble_eq_true rfl⟩ ⟨Nat.le_of_ble_eq_true rfl, Nat.le_of_ble_eq_true rfl⟩ dL_refuses_603 (fun g z H locs hs hP hD hS => ?_)
  refine lv_ldc (v := -7000001) C.hx C.hb C.hown (C.hT.use kk_L_90 args) dL_refuses_606 ?_
  refine lv_icmp_ne (tgt := 634) C.hx C.hb dL_refuses_608 (by decide) (fun c9 => absurd c9 (by decide +kernel)) (fun _ => ?_)
  refine lv_iload_n C.hx C.hb dL_refuses_611 rfl (lv_at hl 14 rfl) ?_
  refine lv_if_eq (tgt := 630) C.hx C.hb dL_refuses_612 (by decide) (fun c9 => ?_) (fun c9 => ?_)
  · refine W.widen (k := 102) (n := 612) (Nat.le_of_ble_eq_true rfl) (Nat.le_of_ble_eq_true rfl) ?_
    exact kk g z H locs ls hs hP hD hS hl
  · have ha0 : 0 < a := Nat.pos_of_ne_zero (fun q => c9 (by rw [q]; rfl))
    have hb0 : 0 < b := hab ha0
    refine lv_aload_n C.hx C.hb dL_refuses_615 rfl (lv_at hl 13 rfl) ?_
    refine lv_iload C.hx C.hb dL_refuses_616 (lv_at hl 3 rfl) ?_
    refine lv_iconst (v := nI 0) C.hx C.hb dL_refuses_618 (by decide +kernel) ?_
    refine lv_iconst (v := nI 0) C.hx C.hb dL_refuses_619 (by decide +kernel) ?_
    refine lv_iconst (v := nI 0) C.hx C.hb dL_refuses_620 (by decide +kernel) ?_
    refine lv_iconst (v := nI 0) C.hx C.hb dL_refuses_621 (by decide +kernel) ?_
    refine q_cR (w := 12) (p0 := nI 0) (p1 := nI 0) (p2 := nI 0) (p3 := nI 0) (r := -7000002) (c2 := 102) (s2 := 612) C hs hP hD hS (rs_join C.htr (q_r_nI (by omega))) hl rfl (Nat.le_of_ble_eq_true rfl) ⟨Nat.le_of_ble_eq_true rfl, Nat.le_of_ble_eq_true rfl⟩ ⟨Nat.le_of_ble_eq_true rfl, Nat.le_of_ble_eq_true rfl⟩ ⟨Nat.le_of_ble_eq_true rfl, Nat.le_of_ble_eq_true rfl⟩ dL_refuses_622 (fun g z H locs hs hP hD hS => ?_)
    refine lv_ldc (v := -7000002) C.hx C.hb C.hown (C.hT.use kk_L_93 args) dL_refuses_625 ?_
    refine lv_icmp_ne (tgt := 634) C.hx C.hb dL_refuses_627 (by decide) (fun c9 => absurd c9 (by decide +kernel)) (fun _ => ?_)
    exact kk g z H locs ls hs hP hD hS hl

set_option maxRecDepth 100000 in
set_option maxHeartbeats 4000000 in
theorem tf_45 {p : Program} {l : Launch} {e : Env} {s : State} {m : MethodId} {args : Array Value} {below : List Frame} {meth : Method} {c : Code} {D : va_G} {cA : ClassId} {A : Nat → Prop} {ad : Nat → Nat} {Q : State → Prop} {g0 : Nat → Nat → Int32} {a t b : Nat} (ha : a ≤ 16) (hb9 : b ≤ 40) (hab : 0 < a → 0 < b) (C : lcx p l s m c cL_refuses 16 D cA A) (kk : ∀ (g : Nat → Nat → Int32) (z : Nat → Nat) (H : Heap) (locs : List Loc) (ls : Array Slot), SR g0 a t b g z → va_P D vwCl (rlW cA ad g z) H → va_D A (rlW cA ad g z) → va_S A s.heap H locs → lv_has ls 16 [(12, .int (nI 1)), (15, .int (nI 0)), (14, .int (nI 1)), (13, .int (nI 13)), (11, .int (nI 10)), (10, .int (nI 8)), (9, .int (nI b)), (8, .int (nI a)), (7, .int (-2147483648)), (6, .int (-2147483648)), (5, .int (nI 1)), (4, .int (nI (dfO g0 a a))), (3, .int (nI 2147483647)), (0, .ref (ad 70)), (1, .int (nI a)), (2, .int (nI b))] → W p l e rm_Lr s m args below meth c H locs 103 618 Q (F0 m 637 ls [])) : ∀ (g : Nat → Nat → Int32) (z : Nat → Nat) (H : Heap) (locs : List Loc) (ls : Array Slot), SR g0 a t b g z → va_P D vwCl (rlW cA ad g z) H → va_D A (rlW cA ad g z) → va_S A s.heap H locs → lv_has ls 16 [(12, .int (nI 1)), (15, .int (nI 1)), (14, .int (nI 1)), (13, .int (nI 12)), (11, .int (nI 10)), (10, .int (nI 8)), (9, .int (nI b)), (8, .int (nI a)), (7, .int (-2147483648)), (6, .int (-2147483648)), (5, .int (nI 1)), (4, .int (nI (dfO g0 a a))), (3, .int (nI 2147483647)), (0, .ref (ad 70)), (1, .int (nI a)), (2, .int (nI b))] → W p l e rm_Lr s m args below meth c H locs 102 612 Q (F0 m 630 ls []) := by
  intro g z H locs ls hs hP hD hS hl
  refine lv_iconst (v := nI 1) C.hx C.hb dL_refuses_630 (by decide +kernel) ?_
  refine lv_goto (tgt := 635) C.hx C.hb dL_refuses_631 (by decide) ?_
  refine lv_istore (lv' := [(12, .int (nI 1)), (15, .int (nI 1)), (14, .int (nI 1)), (13, .int (nI 12)), (11, .int (nI 10)), (10, .int (nI 8)), (9, .int (nI b)), (8, .int (nI a)), (7, .int (-2147483648)), (6, .int (-2147483648)), (5, .int (nI 1)), (4, .int (nI (dfO g0 a a))), (3, .int (nI 2147483647)), (0, .ref (ad 70)), (1, .int (nI a)), (2, .int (nI b))]) C.hx C.hb dL_refuses_635 hl (by decide) rfl (fun ls hl => ?_)
  refine lv_iload C.hx C.hb dL_refuses_637 (lv_at hl 3 rfl) ?_
  refine lv_bipush (v := nI 15) C.hx C.hb dL_refuses_639 (by decide +kernel) ?_
  refine lv_icmp_eq (tgt := 658) C.hx C.hb dL_refuses_641 (by decide) (fun c9 => absurd c9 (by decide +kernel)) (fun _ => ?_)
  refine lv_iload C.hx C.hb dL_refuses_644 (lv_at hl 3 rfl) ?_
  refine lv_bipush (v := nI 16) C.hx C.hb dL_refuses_646 (by decide +kernel) ?_
  refine lv_icmp_eq (tgt := 658) C.hx C.hb dL_refuses_648 (by decide) (fun c9 => absurd c9 (by decide +kernel)) (fun _ => ?_)
  refine lv_iload C.hx C.hb dL_refuses_651 (lv_at hl 3 rfl) ?_
  refine lv_bipush (v := nI 18) C.hx C.hb dL_refuses_653 (by decide +kernel) ?_
  refine lv_icmp_ne (tgt := 681) C.hx C.hb dL_refuses_655 (by decide) (fun _ => ?_) (fun c9 => absurd c9 (by decide +kernel))
  refine lv_iinc (v := nI 13) (lv' := [(13, .int (nI 13)), (12, .int (nI 1)), (15, .int (nI 1)), (14, .int (nI 1)), (11, .int (nI 10)), (10, .int (nI 8)), (9, .int (nI b)), (8, .int (nI a)), (7, .int (-2147483648)), (6, .int (-2147483648)), (5, .int (nI 1)), (4, .int (nI (dfO g0 a a))), (3, .int (nI 2147483647)), (0, .ref (ad 70)), (1, .int (nI a)), (2, .int (nI b))]) C.hx C.hb dL_refuses_681 hl (k := 3) rfl (by decide +kernel) (by decide) rfl (fun ls hl => ?_)
  refine lv_goto (tgt := 459) C.hx C.hb dL_refuses_684 (by decide) ?_
  refine lv_iload C.hx C.hb dL_refuses_459 (lv_at hl 0 rfl) ?_
  refine lv_bipush (v := nI 20) C.hx C.hb dL_refuses_461 (by decide +kernel) ?_
  refine lv_icmp_ge (tgt := 687) C.hx C.hb dL_refuses_463 (by decide) (fun c9 => absurd c9 (by decide +kernel)) (fun _ => ?_)
  refine lv_iload C.hx C.hb dL_refuses_466 (lv_at hl 1 rfl) ?_
  refine lv_if_eq (tgt := 687) C.hx C.hb dL_refuses_468 (by decide) (fun c9 => absurd c9 (by decide +kernel)) (fun _ => ?_)
  refine lv_iload C.hx C.hb dL_refuses_471 (lv_at hl 0 rfl) ?_
  refine lv_iconst (v := nI 4) C.hx C.hb dL_refuses_473 (by decide +kernel) ?_
  refine lv_icmp_lt (tgt := 497) C.hx C.hb dL_refuses_474 (by decide) (fun c9 => absurd c9 (by decide +kernel)) (fun _ => ?_)
  refine lv_iload C.hx C.hb dL_refuses_477 (lv_at hl 0 rfl) ?_
  refine lv_iconst (v := nI 5) C.hx C.hb dL_refuses_479 (by decide +kernel) ?_
  refine lv_icmp_le (tgt := 490) C.hx C.hb dL_refuses_480 (by decide) (fun c9 => absurd c9 (by decide +kernel)) (fun _ => ?_)
  refine lv_iload C.hx C.hb dL_refuses_483 (lv_at hl 0 rfl) ?_
  refine lv_bipush (v := nI 15) C.hx C.hb dL_refuses_485 (by decide +kernel) ?_
  refine lv_icmp_lt (tgt := 497) C.hx C.hb dL_refuses_487 (by decide) (fun _ => ?_) (fun c9 => absurd c9 (by decide +kernel))
  refine lv_iconst (v := nI 1) C.hx C.hb dL_refuses_497 (by decide +kernel) ?_
  refine lv_goto (tgt := 502) C.hx C.hb dL_refuses_498 (by decide) ?_
  refine lv_istore (lv' := [(14, .int (nI 1)), (13, .int (nI 13)), (12, .int (nI 1)), (15, .int (nI 1)), (11, .int (nI 10)), (10, .int (nI 8)), (9, .int (nI b)), (8, .int (nI a)), (7, .int (-2147483648)), (6, .int (-2147483648)), (5, .int (nI 1)), (4, .int (nI (dfO g0 a a))), (3, .int (nI 2147483647)), (0, .ref (ad 70)), (1, .int (nI a)), (2, .int (nI b))]) C.hx C.hb dL_refuses_502 hl (by decide) rfl (fun ls hl => ?_)
  refine lv_iload C.hx C.hb dL_refuses_504 (lv_at hl 1 rfl) ?_
  refine lv_iconst (v := nI 3) C.hx C.hb dL_refuses_506 (by decide +kernel) ?_
  refine lv_icmp_eq (tgt := 531) C.hx C.hb dL_refuses_507 (by decide) (fun c9 => absurd c9 (by decide +kernel)) (fun _ => ?_)
  refine lv_iload C.hx C.hb dL_refuses_510 (lv_at hl 1 rfl) ?_
  refine lv_bipush (v := nI 7) C.hx C.hb dL_refuses_512 (by decide +kernel) ?_
  refine lv_icmp_le (tgt := 524) C.hx C.hb dL_refuses_514 (by decide) (fun c9 => absurd c9 (by decide +kernel)) (fun _ => ?_)
  refine lv_iload C.hx C.hb dL_refuses_517 (lv_at hl 1 rfl) ?_
  refine lv_bipush (v := nI 13) C.hx C.hb dL_refuses_519 (by decide +kernel) ?_
  refine lv_icmp_lt (tgt := 531) C.hx C.hb dL_refuses_521 (by decide) (fun c9 => absurd c9 (by decide +kernel)) (fun _ => ?_)
  refine lv_iload C.hx C.hb dL_refuses_524 (lv_at hl 1 rfl) ?_
  refine lv_bipush (v := nI 19) C.hx C.hb dL_refuses_526 (by decide +kernel) ?_
  refine lv_icmp_ne (tgt := 535) C.hx C.hb dL_refuses_528 (by decide) (fun _ => ?_) (fun c9 => absurd c9 (by decide +kernel))
  refine lv_iconst (v := nI 0) C.hx C.hb dL_refuses_535 (by decide +kernel) ?_
  refine lv_istore (lv' := [(15, .int (nI 0)), (14, .int (nI 1)), (13, .int (nI 13)), (12, .int (nI 1)), (11, .int (nI 10)), (10, .int (nI 8)), (9, .int (nI b)), (8, .int (nI a)), (7, .int (-2147483648)), (6, .int (-2147483648)), (5, .int (nI 1)), (4, .int (nI (dfO g0 a a))), (3, .int (nI 2147483647)), (0, .ref (ad 70)), (1, .int (nI a)), (2, .int (nI b))]) C.hx C.hb dL_refuses_536 hl (by decide) rfl (fun ls hl => ?_)
  refine lv_iload C.hx C.hb dL_refuses_538 (lv_at hl 1 rfl) ?_
  refine lv_if_eq (tgt := 567) C.hx C.hb dL_refuses_540 (by decide) (fun c9 => absurd c9 (by decide +kernel)) (fun _ => ?_)
  refine lv_aload_n C.hx C.hb dL_refuses_543 rfl (lv_at hl 13 rfl) ?_
  refine lv_iload C.hx C.hb dL_refuses_544 (lv_at hl 2 rfl) ?_
  refine lv_iload C.hx C.hb dL_refuses_546 (lv_at hl 7 rfl) ?_
  refine lv_iconst (v := nI 0) C.hx C.hb dL_refuses_548 (by decide +kernel) ?_
  refine lv_bipush (v := nI 99) C.hx C.hb dL_refuses_549 (by decide +kernel) ?_
  refine lv_iconst (v := nI 0) C.hx C.hb dL_refuses_551 (by decide +kernel) ?_
  refine q_cR (w := 13) (p0 := nI a) (p1 := nI 0) (p2 := nI 99) (p3 := nI 0) (r := -7000001) (c2 := 103) (s2 := 618) C hs hP hD hS (ri_split C.htr (notn (by omega))) hl rfl (Nat.le_of_ble_eq_true rfl) ⟨Nat.le_of_ble_eq_true rfl, Nat.le_of_ble_eq_true rfl⟩ ⟨Nat.le_of_ble_eq_true rfl, Nat.le_of_ble_eq_true rfl⟩ ⟨Nat.le_of_ble_eq_true rfl, Nat.le_of_ble_eq_true rfl⟩ dL_refuses_552 (fun g z H locs hs hP hD hS => ?_)
  refine lv_ldc (v := -7000001) C.hx C.hb C.hown (C.hT.use kk_L_90 args) dL_refuses_555 ?_
  refine lv_icmp_ne (tgt := 564) C.hx C.hb dL_refuses_557 (by decide) (fun c9 => absurd c9 (by decide +kernel)) (fun _ => ?_)
  refine lv_iconst (v := nI 1) C.hx C.hb dL_refuses_560 (by decide +kernel) ?_
  refine lv_goto (tgt := 565) C.hx C.hb dL_refuses_561 (by decide) ?_
  refine lv_istore (lv' := [(12, .int (nI 1)), (15, .int (nI 0)), (14, .int (nI 1)), (13, .int (nI 13)), (11, .int (nI 10)), (10, .int (nI 8)), (9, .int (nI b)), (8, .int (nI a)), (7, .int (-2147483648)), (6, .int (-2147483648)), (5, .int (nI 1)), (4, .int (nI (dfO g0 a a))), (3, .int (nI 2147483647)), (0, .ref (ad 70)), (1, .int (nI a)), (2, .int (nI b))]) C.hx C.hb dL_refuses_565 hl (by decide) rfl (fun ls hl => ?_)
  refine lv_iload C.hx C.hb dL_refuses_567 (lv_at hl 1 rfl) ?_
  refine lv_if_eq (tgt := 637) C.hx C.hb dL_refuses_569 (by decide) (fun _ => ?_) (fun c9 => absurd c9 (by decide +kernel))
  exact kk g z H locs ls hs hP hD hS hl

set_option maxRecDepth 100000 in
set_option maxHeartbeats 4000000 in
theorem tf_46 {p : Program} {l : Launch} {e : Env} {s : State} {m : MethodId} {args : Array Value} {below : List Frame} {meth : Method} {c : Code} {D : va_G} {cA : ClassId} {A : Nat → Prop} {ad : Nat → Nat} {Q : State → Prop} {g0 : Nat → Nat → Int32} {a t b : Nat} (ha : a ≤ 16) (hb9 : b ≤ 40) (hab : 0 < a → 0 < b) (C : lcx p l s m c cL_refuses 16 D cA A) (kk : ∀ (g : Nat → Nat → Int32) (z : Nat → Nat) (H : Heap) (locs : List Loc) (ls : Array Slot), SR g0 a t b g z → va_P D vwCl (rlW cA ad g z) H → va_D A (rlW cA ad g z) → va_S A s.heap H locs → lv_has ls 16 [(12, .int (nI 1)), (15, .int (nI 0)), (14, .int (nI 1)), (13, .int (nI 14)), (11, .int (nI 10)), (10, .int (nI 8)), (9, .int (nI b)), (8, .int (nI a)), (7, .int (-2147483648)), (6, .int (-2147483648)), (5, .int (nI 1)), (4, .int (nI (dfO g0 a a))), (3, .int (nI 2147483647)), (0, .ref (ad 70)), (1, .int (nI a)), (2, .int (nI b))] → W p l e rm_Lr s m args below meth c H locs 104 624 Q (F0 m 644 ls [])) : ∀ (g : Nat → Nat → Int32) (z : Nat → Nat) (H : Heap) (locs : List Loc) (ls : Array Slot), SR g0 a t b g z → va_P D vwCl (rlW cA ad g z) H → va_D A (rlW cA ad g z) → va_S A s.heap H locs → lv_has ls 16 [(12, .int (nI 1)), (15, .int (nI 0)), (14, .int (nI 1)), (13, .int (nI 13)), (11, .int (nI 10)), (10, .int (nI 8)), (9, .int (nI b)), (8, .int (nI a)), (7, .int (-2147483648)), (6, .int (-2147483648)), (5, .int (nI 1)), (4, .int (nI (dfO g0 a a))), (3, .int (nI 2147483647)), (0, .ref (ad 70)), (1, .int (nI a)), (2, .int (nI b))] → W p l e rm_Lr s m args below meth c H locs 103 618 Q (F0 m 637 ls []) := by
  intro g z H locs ls hs hP hD hS hl
  refine lv_iload C.hx C.hb dL_refuses_637 (lv_at hl 3 rfl) ?_
  refine lv_bipush (v := nI 15) C.hx C.hb dL_refuses_639 (by decide +kernel) ?_
  refine lv_icmp_eq (tgt := 658) C.hx C.hb dL_refuses_641 (by decide) (fun c9 => absurd c9 (by decide +kernel)) (fun _ => ?_)
  refine lv_iload C.hx C.hb dL_refuses_644 (lv_at hl 3 rfl) ?_
  refine lv_bipush (v := nI 16) C.hx C.hb dL_refuses_646 (by decide +kernel) ?_
  refine lv_icmp_eq (tgt := 658) C.hx C.hb dL_refuses_648 (by decide) (fun c9 => absurd c9 (by decide +kernel)) (fun _ => ?_)
  refine lv_iload C.hx C.hb dL_refuses_651 (lv_at hl 3 rfl) ?_
  refine lv_bipush (v := nI 18) C.hx C.hb dL_refuses_653 (by decide +kernel) ?_
  refine lv_icmp_ne (tgt := 681) C.hx C.hb dL_refuses_655 (by decide) (fun _ => ?_) (fun c9 => absurd c9 (by decide +kernel))
  refine lv_iinc (v := nI 14) (lv' := [(13, .int (nI 14)), (12, .int (nI 1)), (15, .int (nI 0)), (14, .int (nI 1)), (11, .int (nI 10)), (10, .int (nI 8)), (9, .int (nI b)), (8, .int (nI a)), (7, .int (-2147483648)), (6, .int (-2147483648)), (5, .int (nI 1)), (4, .int (nI (dfO g0 a a))), (3, .int (nI 2147483647)), (0, .ref (ad 70)), (1, .int (nI a)), (2, .int (nI b))]) C.hx C.hb dL_refuses_681 hl (k := 3) rfl (by decide +kernel) (by decide) rfl (fun ls hl => ?_)
  refine lv_goto (tgt := 459) C.hx C.hb dL_refuses_684 (by decide) ?_
  refine lv_iload C.hx C.hb dL_refuses_459 (lv_at hl 0 rfl) ?_
  refine lv_bipush (v := nI 20) C.hx C.hb dL_refuses_461 (by decide +kernel) ?_
  refine lv_icmp_ge (tgt := 687) C.hx C.hb dL_refuses_463 (by decide) (fun c9 => absurd c9 (by decide +kernel)) (fun _ => ?_)
  refine lv_iload C.hx C.hb dL_refuses_466 (lv_at hl 1 rfl) ?_
  refine lv_if_eq (tgt := 687) C.hx C.hb dL_refuses_468 (by decide) (fun c9 => absurd c9 (by decide +kernel)) (fun _ => ?_)
  refine lv_iload C.hx C.hb dL_refuses_471 (lv_at hl 0 rfl) ?_
  refine lv_iconst (v := nI 4) C.hx C.hb dL_refuses_473 (by decide +kernel) ?_
  refine lv_icmp_lt (tgt := 497) C.hx C.hb dL_refuses_474 (by decide) (fun c9 => absurd c9 (by decide +kernel)) (fun _ => ?_)
  refine lv_iload C.hx C.hb dL_refuses_477 (lv_at hl 0 rfl) ?_
  refine lv_iconst (v := nI 5) C.hx C.hb dL_refuses_479 (by decide +kernel) ?_
  refine lv_icmp_le (tgt := 490) C.hx C.hb dL_refuses_480 (by decide) (fun c9 => absurd c9 (by decide +kernel)) (fun _ => ?_)
  refine lv_iload C.hx C.hb dL_refuses_483 (lv_at hl 0 rfl) ?_
  refine lv_bipush (v := nI 15) C.hx C.hb dL_refuses_485 (by decide +kernel) ?_
  refine lv_icmp_lt (tgt := 497) C.hx C.hb dL_refuses_487 (by decide) (fun _ => ?_) (fun c9 => absurd c9 (by decide +kernel))
  refine lv_iconst (v := nI 1) C.hx C.hb dL_refuses_497 (by decide +kernel) ?_
  refine lv_goto (tgt := 502) C.hx C.hb dL_refuses_498 (by decide) ?_
  refine lv_istore (lv' := [(14, .int (nI 1)), (13, .int (nI 14)), (12, .int (nI 1)), (15, .int (nI 0)), (11, .int (nI 10)), (10, .int (nI 8)), (9, .int (nI b)), (8, .int (nI a)), (7, .int (-2147483648)), (6, .int (-2147483648)), (5, .int (nI 1)), (4, .int (nI (dfO g0 a a))), (3, .int (nI 2147483647)), (0, .ref (ad 70)), (1, .int (nI a)), (2, .int (nI b))]) C.hx C.hb dL_refuses_502 hl (by decide) rfl (fun ls hl => ?_)
  refine lv_iload C.hx C.hb dL_refuses_504 (lv_at hl 1 rfl) ?_
  refine lv_iconst (v := nI 3) C.hx C.hb dL_refuses_506 (by decide +kernel) ?_
  refine lv_icmp_eq (tgt := 531) C.hx C.hb dL_refuses_507 (by decide) (fun c9 => absurd c9 (by decide +kernel)) (fun _ => ?_)
  refine lv_iload C.hx C.hb dL_refuses_510 (lv_at hl 1 rfl) ?_
  refine lv_bipush (v := nI 7) C.hx C.hb dL_refuses_512 (by decide +kernel) ?_
  refine lv_icmp_le (tgt := 524) C.hx C.hb dL_refuses_514 (by decide) (fun c9 => absurd c9 (by decide +kernel)) (fun _ => ?_)
  refine lv_iload C.hx C.hb dL_refuses_517 (lv_at hl 1 rfl) ?_
  refine lv_bipush (v := nI 13) C.hx C.hb dL_refuses_519 (by decide +kernel) ?_
  refine lv_icmp_lt (tgt := 531) C.hx C.hb dL_refuses_521 (by decide) (fun c9 => absurd c9 (by decide +kernel)) (fun _ => ?_)
  refine lv_iload C.hx C.hb dL_refuses_524 (lv_at hl 1 rfl) ?_
  refine lv_bipush (v := nI 19) C.hx C.hb dL_refuses_526 (by decide +kernel) ?_
  refine lv_icmp_ne (tgt := 535) C.hx C.hb dL_refuses_528 (by decide) (fun _ => ?_) (fun c9 => absurd c9 (by decide +kernel))
  refine lv_iconst (v := nI 0) C.hx C.hb dL_refuses_535 (by decide +kernel) ?_
  refine lv_istore (lv' := [(15, .int (nI 0)), (14, .int (nI 1)), (13, .int (nI 14)), (12, .int (nI 1)), (11, .int (nI 10)), (10, .int (nI 8)), (9, .int (nI b)), (8, .int (nI a)), (7, .int (-2147483648)), (6, .int (-2147483648)), (5, .int (nI 1)), (4, .int (nI (dfO g0 a a))), (3, .int (nI 2147483647)), (0, .ref (ad 70)), (1, .int (nI a)), (2, .int (nI b))]) C.hx C.hb dL_refuses_536 hl (by decide) rfl (fun ls hl => ?_)
  refine lv_iload C.hx C.hb dL_refuses_538 (lv_at hl 1 rfl) ?_
  refine lv_if_eq (tgt := 567) C.hx C.hb dL_refuses_540 (by decide) (fun c9 => absurd c9 (by decide +kernel)) (fun _ => ?_)
  refine lv_aload_n C.hx C.hb dL_refuses_543 rfl (lv_at hl 13 rfl) ?_
  refine lv_iload C.hx C.hb dL_refuses_544 (lv_at hl 2 rfl) ?_
  refine lv_iload C.hx C.hb dL_refuses_546 (lv_at hl 7 rfl) ?_
  refine lv_iconst (v := nI 0) C.hx C.hb dL_refuses_548 (by decide +kernel) ?_
  refine lv_bipush (v := nI 99) C.hx C.hb dL_refuses_549 (by decide +kernel) ?_
  refine lv_iconst (v := nI 0) C.hx C.hb dL_refuses_551 (by decide +kernel) ?_
  refine q_cR (w := 14) (p0 := nI a) (p1 := nI 0) (p2 := nI 99) (p3 := nI 0) (r := -7000001) (c2 := 104) (s2 := 624) C hs hP hD hS (ri_person C.htr (notn (by omega))) hl rfl (Nat.le_of_ble_eq_true rfl) ⟨Nat.le_of_ble_eq_true rfl, Nat.le_of_ble_eq_true rfl⟩ ⟨Nat.le_of_ble_eq_true rfl, Nat.le_of_ble_eq_true rfl⟩ ⟨Nat.le_of_ble_eq_true rfl, Nat.le_of_ble_eq_true rfl⟩ dL_refuses_552 (fun g z H locs hs hP hD hS => ?_)
  refine lv_ldc (v := -7000001) C.hx C.hb C.hown (C.hT.use kk_L_90 args) dL_refuses_555 ?_
  refine lv_icmp_ne (tgt := 564) C.hx C.hb dL_refuses_557 (by decide) (fun c9 => absurd c9 (by decide +kernel)) (fun _ => ?_)
  refine lv_iconst (v := nI 1) C.hx C.hb dL_refuses_560 (by decide +kernel) ?_
  refine lv_goto (tgt := 565) C.hx C.hb dL_refuses_561 (by decide) ?_
  refine lv_istore (lv' := [(12, .int (nI 1)), (15, .int (nI 0)), (14, .int (nI 1)), (13, .int (nI 14)), (11, .int (nI 10)), (10, .int (nI 8)), (9, .int (nI b)), (8, .int (nI a)), (7, .int (-2147483648)), (6, .int (-2147483648)), (5, .int (nI 1)), (4, .int (nI (dfO g0 a a))), (3, .int (nI 2147483647)), (0, .ref (ad 70)), (1, .int (nI a)), (2, .int (nI b))]) C.hx C.hb dL_refuses_565 hl (by decide) rfl (fun ls hl => ?_)
  refine lv_iload C.hx C.hb dL_refuses_567 (lv_at hl 1 rfl) ?_
  refine lv_if_eq (tgt := 637) C.hx C.hb dL_refuses_569 (by decide) (fun _ => ?_) (fun c9 => absurd c9 (by decide +kernel))
  refine lv_iload C.hx C.hb dL_refuses_637 (lv_at hl 3 rfl) ?_
  refine lv_bipush (v := nI 15) C.hx C.hb dL_refuses_639 (by decide +kernel) ?_
  refine lv_icmp_eq (tgt := 658) C.hx C.hb dL_refuses_641 (by decide) (fun c9 => absurd c9 (by decide +kernel)) (fun _ => ?_)
  exact kk g z H locs ls hs hP hD hS hl

set_option maxRecDepth 100000 in
set_option maxHeartbeats 4000000 in
theorem tf_47 {p : Program} {l : Launch} {e : Env} {s : State} {m : MethodId} {args : Array Value} {below : List Frame} {meth : Method} {c : Code} {D : va_G} {cA : ClassId} {A : Nat → Prop} {ad : Nat → Nat} {Q : State → Prop} {g0 : Nat → Nat → Int32} {a t b : Nat} (ha : a ≤ 16) (hb9 : b ≤ 40) (hab : 0 < a → 0 < b) (C : lcx p l s m c cL_refuses 16 D cA A) (kk : ∀ (g : Nat → Nat → Int32) (z : Nat → Nat) (H : Heap) (locs : List Loc) (ls : Array Slot), SR g0 a t b g z → va_P D vwCl (rlW cA ad g z) H → va_D A (rlW cA ad g z) → va_S A s.heap H locs → lv_has ls 16 [(13, .int (nI 16)), (12, .int (nI 1)), (15, .int (nI 0)), (14, .int (nI 0)), (11, .int (nI 10)), (10, .int (nI 8)), (9, .int (nI b)), (8, .int (nI a)), (7, .int (-2147483648)), (6, .int (-2147483648)), (5, .int (nI 1)), (4, .int (nI (dfO g0 a a))), (3, .int (nI 2147483647)), (0, .ref (ad 70)), (1, .int (nI a)), (2, .int (nI b))] → W p l e rm_Lr s m args below meth c H locs 105 630 Q (F0 m 684 ls [])) : ∀ (g : Nat → Nat → Int32) (z : Nat → Nat) (H : Heap) (locs : List Loc) (ls : Array Slot), SR g0 a t b g z → va_P D vwCl (rlW cA ad g z) H → va_D A (rlW cA ad g z) → va_S A s.heap H locs → lv_has ls 16 [(12, .int (nI 1)), (15, .int (nI 0)), (14, .int (nI 1)), (13, .int (nI 14)), (11, .int (nI 10)), (10, .int (nI 8)), (9, .int (nI b)), (8, .int (nI a)), (7, .int (-2147483648)), (6, .int (-2147483648)), (5, .int (nI 1)), (4, .int (nI (dfO g0 a a))), (3, .int (nI 2147483647)), (0, .ref (ad 70)), (1, .int (nI a)), (2, .int (nI b))] → W p l e rm_Lr s m args below meth c H locs 104 624 Q (F0 m 644 ls []) := by
  intro g z H locs ls hs hP hD hS hl
  refine lv_iload C.hx C.hb dL_refuses_644 (lv_at hl 3 rfl) ?_
  refine lv_bipush (v := nI 16) C.hx C.hb dL_refuses_646 (by decide +kernel) ?_
  refine lv_icmp_eq (tgt := 658) C.hx C.hb dL_refuses_648 (by decide) (fun c9 => absurd c9 (by decide +kernel)) (fun _ => ?_)
  refine lv_iload C.hx C.hb dL_refuses_651 (lv_at hl 3 rfl) ?_
  refine lv_bipush (v := nI 18) C.hx C.hb dL_refuses_653 (by decide +kernel) ?_
  refine lv_icmp_ne (tgt := 681) C.hx C.hb dL_refuses_655 (by decide) (fun _ => ?_) (fun c9 => absurd c9 (by decide +kernel))
  refine lv_iinc (v := nI 15) (lv' := [(13, .int (nI 15)), (12, .int (nI 1)), (15, .int (nI 0)), (14, .int (nI 1)), (11, .int (nI 10)), (10, .int (nI 8)), (9, .int (nI b)), (8, .int (nI a)), (7, .int (-2147483648)), (6, .int (-2147483648)), (5, .int (nI 1)), (4, .int (nI (dfO g0 a a))), (3, .int (nI 2147483647)), (0, .ref (ad 70)), (1, .int (nI a)), (2, .int (nI b))]) C.hx C.hb dL_refuses_681 hl (k := 3) rfl (by decide +kernel) (by decide) rfl (fun ls hl => ?_)
  refine lv_goto (tgt := 459) C.hx C.hb dL_refuses_684 (by decide) ?_
  refine lv_iload C.hx C.hb dL_refuses_459 (lv_at hl 0 rfl) ?_
  refine lv_bipush (v := nI 20) C.hx C.hb dL_refuses_461 (by decide +kernel) ?_
  refine lv_icmp_ge (tgt := 687) C.hx C.hb dL_refuses_463 (by decide) (fun c9 => absurd c9 (by decide +kernel)) (fun _ => ?_)
  refine lv_iload C.hx C.hb dL_refuses_466 (lv_at hl 1 rfl) ?_
  refine lv_if_eq (tgt := 687) C.hx C.hb dL_refuses_468 (by decide) (fun c9 => absurd c9 (by decide +kernel)) (fun _ => ?_)
  refine lv_iload C.hx C.hb dL_refuses_471 (lv_at hl 0 rfl) ?_
  refine lv_iconst (v := nI 4) C.hx C.hb dL_refuses_473 (by decide +kernel) ?_
  refine lv_icmp_lt (tgt := 497) C.hx C.hb dL_refuses_474 (by decide) (fun c9 => absurd c9 (by decide +kernel)) (fun _ => ?_)
  refine lv_iload C.hx C.hb dL_refuses_477 (lv_at hl 0 rfl) ?_
  refine lv_iconst (v := nI 5) C.hx C.hb dL_refuses_479 (by decide +kernel) ?_
  refine lv_icmp_le (tgt := 490) C.hx C.hb dL_refuses_480 (by decide) (fun c9 => absurd c9 (by decide +kernel)) (fun _ => ?_)
  refine lv_iload C.hx C.hb dL_refuses_483 (lv_at hl 0 rfl) ?_
  refine lv_bipush (v := nI 15) C.hx C.hb dL_refuses_485 (by decide +kernel) ?_
  refine lv_icmp_lt (tgt := 497) C.hx C.hb dL_refuses_487 (by decide) (fun c9 => absurd c9 (by decide +kernel)) (fun _ => ?_)
  refine lv_iload C.hx C.hb dL_refuses_490 (lv_at hl 0 rfl) ?_
  refine lv_bipush (v := nI 19) C.hx C.hb dL_refuses_492 (by decide +kernel) ?_
  refine lv_icmp_ne (tgt := 501) C.hx C.hb dL_refuses_494 (by decide) (fun _ => ?_) (fun c9 => absurd c9 (by decide +kernel))
  refine lv_iconst (v := nI 0) C.hx C.hb dL_refuses_501 (by decide +kernel) ?_
  refine lv_istore (lv' := [(14, .int (nI 0)), (13, .int (nI 15)), (12, .int (nI 1)), (15, .int (nI 0)), (11, .int (nI 10)), (10, .int (nI 8)), (9, .int (nI b)), (8, .int (nI a)), (7, .int (-2147483648)), (6, .int (-2147483648)), (5, .int (nI 1)), (4, .int (nI (dfO g0 a a))), (3, .int (nI 2147483647)), (0, .ref (ad 70)), (1, .int (nI a)), (2, .int (nI b))]) C.hx C.hb dL_refuses_502 hl (by decide) rfl (fun ls hl => ?_)
  refine lv_iload C.hx C.hb dL_refuses_504 (lv_at hl 1 rfl) ?_
  refine lv_iconst (v := nI 3) C.hx C.hb dL_refuses_506 (by decide +kernel) ?_
  refine lv_icmp_eq (tgt := 531) C.hx C.hb dL_refuses_507 (by decide) (fun c9 => absurd c9 (by decide +kernel)) (fun _ => ?_)
  refine lv_iload C.hx C.hb dL_refuses_510 (lv_at hl 1 rfl) ?_
  refine lv_bipush (v := nI 7) C.hx C.hb dL_refuses_512 (by decide +kernel) ?_
  refine lv_icmp_le (tgt := 524) C.hx C.hb dL_refuses_514 (by decide) (fun c9 => absurd c9 (by decide +kernel)) (fun _ => ?_)
  refine lv_iload C.hx C.hb dL_refuses_517 (lv_at hl 1 rfl) ?_
  refine lv_bipush (v := nI 13) C.hx C.hb dL_refuses_519 (by decide +kernel) ?_
  refine lv_icmp_lt (tgt := 531) C.hx C.hb dL_refuses_521 (by decide) (fun c9 => absurd c9 (by decide +kernel)) (fun _ => ?_)
  refine lv_iload C.hx C.hb dL_refuses_524 (lv_at hl 1 rfl) ?_
  refine lv_bipush (v := nI 19) C.hx C.hb dL_refuses_526 (by decide +kernel) ?_
  refine lv_icmp_ne (tgt := 535) C.hx C.hb dL_refuses_528 (by decide) (fun _ => ?_) (fun c9 => absurd c9 (by decide +kernel))
  refine lv_iconst (v := nI 0) C.hx C.hb dL_refuses_535 (by decide +kernel) ?_
  refine lv_istore (lv' := [(15, .int (nI 0)), (14, .int (nI 0)), (13, .int (nI 15)), (12, .int (nI 1)), (11, .int (nI 10)), (10, .int (nI 8)), (9, .int (nI b)), (8, .int (nI a)), (7, .int (-2147483648)), (6, .int (-2147483648)), (5, .int (nI 1)), (4, .int (nI (dfO g0 a a))), (3, .int (nI 2147483647)), (0, .ref (ad 70)), (1, .int (nI a)), (2, .int (nI b))]) C.hx C.hb dL_refuses_536 hl (by decide) rfl (fun ls hl => ?_)
  refine lv_iload C.hx C.hb dL_refuses_538 (lv_at hl 1 rfl) ?_
  refine lv_if_eq (tgt := 567) C.hx C.hb dL_refuses_540 (by decide) (fun _ => ?_) (fun c9 => absurd c9 (by decide +kernel))
  refine lv_iload C.hx C.hb dL_refuses_567 (lv_at hl 0 rfl) ?_
  refine lv_if_eq (tgt := 637) C.hx C.hb dL_refuses_569 (by decide) (fun _ => ?_) (fun c9 => absurd c9 (by decide +kernel))
  refine lv_iload C.hx C.hb dL_refuses_637 (lv_at hl 2 rfl) ?_
  refine lv_bipush (v := nI 15) C.hx C.hb dL_refuses_639 (by decide +kernel) ?_
  refine lv_icmp_eq (tgt := 658) C.hx C.hb dL_refuses_641 (by decide) (fun _ => ?_) (fun c9 => absurd c9 (by decide +kernel))
  refine lv_aload_n C.hx C.hb dL_refuses_658 rfl (lv_at hl 13 rfl) ?_
  refine lv_iload C.hx C.hb dL_refuses_659 (lv_at hl 2 rfl) ?_
  refine lv_iload C.hx C.hb dL_refuses_661 (lv_at hl 6 rfl) ?_
  refine lv_iconst (v := nI 0) C.hx C.hb dL_refuses_663 (by decide +kernel) ?_
  refine lv_iconst (v := nI 0) C.hx C.hb dL_refuses_664 (by decide +kernel) ?_
  refine lv_iconst (v := nI 0) C.hx C.hb dL_refuses_665 (by decide +kernel) ?_
  refine q_cR (w := 15) (p0 := nI b) (p1 := nI 0) (p2 := nI 0) (p3 := nI 0) (r := -7000001) (c2 := 105) (s2 := 630) C hs hP hD hS (ri_entry C.htr (notn (by omega))) hl rfl (Nat.le_of_ble_eq_true rfl) ⟨Nat.le_of_ble_eq_true rfl, Nat.le_of_ble_eq_true rfl⟩ ⟨Nat.le_of_ble_eq_true rfl, Nat.le_of_ble_eq_true rfl⟩ ⟨Nat.le_of_ble_eq_true rfl, Nat.le_of_ble_eq_true rfl⟩ dL_refuses_666 (fun g z H locs hs hP hD hS => ?_)
  refine lv_ldc (v := -7000001) C.hx C.hb C.hown (C.hT.use kk_L_90 args) dL_refuses_669 ?_
  refine lv_icmp_ne (tgt := 678) C.hx C.hb dL_refuses_671 (by decide) (fun c9 => absurd c9 (by decide +kernel)) (fun _ => ?_)
  refine lv_iconst (v := nI 1) C.hx C.hb dL_refuses_674 (by decide +kernel) ?_
  refine lv_goto (tgt := 679) C.hx C.hb dL_refuses_675 (by decide) ?_
  refine lv_istore (lv' := [(12, .int (nI 1)), (15, .int (nI 0)), (14, .int (nI 0)), (13, .int (nI 15)), (11, .int (nI 10)), (10, .int (nI 8)), (9, .int (nI b)), (8, .int (nI a)), (7, .int (-2147483648)), (6, .int (-2147483648)), (5, .int (nI 1)), (4, .int (nI (dfO g0 a a))), (3, .int (nI 2147483647)), (0, .ref (ad 70)), (1, .int (nI a)), (2, .int (nI b))]) C.hx C.hb dL_refuses_679 hl (by decide) rfl (fun ls hl => ?_)
  refine lv_iinc (v := nI 16) (lv' := [(13, .int (nI 16)), (12, .int (nI 1)), (15, .int (nI 0)), (14, .int (nI 0)), (11, .int (nI 10)), (10, .int (nI 8)), (9, .int (nI b)), (8, .int (nI a)), (7, .int (-2147483648)), (6, .int (-2147483648)), (5, .int (nI 1)), (4, .int (nI (dfO g0 a a))), (3, .int (nI 2147483647)), (0, .ref (ad 70)), (1, .int (nI a)), (2, .int (nI b))]) C.hx C.hb dL_refuses_681 hl (k := 3) rfl (by decide +kernel) (by decide) rfl (fun ls hl => ?_)
  exact kk g z H locs ls hs hP hD hS hl

set_option maxRecDepth 100000 in
set_option maxHeartbeats 4000000 in
theorem tf_48 {p : Program} {l : Launch} {e : Env} {s : State} {m : MethodId} {args : Array Value} {below : List Frame} {meth : Method} {c : Code} {D : va_G} {cA : ClassId} {A : Nat → Prop} {ad : Nat → Nat} {Q : State → Prop} {g0 : Nat → Nat → Int32} {a t b : Nat} (ha : a ≤ 16) (hb9 : b ≤ 40) (hab : 0 < a → 0 < b) (C : lcx p l s m c cL_refuses 16 D cA A) (kk : ∀ (g : Nat → Nat → Int32) (z : Nat → Nat) (H : Heap) (locs : List Loc) (ls : Array Slot), SR g0 a t b g z → va_P D vwCl (rlW cA ad g z) H → va_D A (rlW cA ad g z) → va_S A s.heap H locs → lv_has ls 16 [(13, .int (nI 17)), (12, .int (nI 1)), (15, .int (nI 0)), (14, .int (nI 0)), (11, .int (nI 10)), (10, .int (nI 8)), (9, .int (nI b)), (8, .int (nI a)), (7, .int (-2147483648)), (6, .int (-2147483648)), (5, .int (nI 1)), (4, .int (nI (dfO g0 a a))), (3, .int (nI 2147483647)), (0, .ref (ad 70)), (1, .int (nI a)), (2, .int (nI b))] → W p l e rm_Lr s m args below meth c H locs 106 636 Q (F0 m 466 ls [])) : ∀ (g : Nat → Nat → Int32) (z : Nat → Nat) (H : Heap) (locs : List Loc) (ls : Array Slot), SR g0 a t b g z → va_P D vwCl (rlW cA ad g z) H → va_D A (rlW cA ad g z) → va_S A s.heap H locs → lv_has ls 16 [(13, .int (nI 16)), (12, .int (nI 1)), (15, .int (nI 0)), (14, .int (nI 0)), (11, .int (nI 10)), (10, .int (nI 8)), (9, .int (nI b)), (8, .int (nI a)), (7, .int (-2147483648)), (6, .int (-2147483648)), (5, .int (nI 1)), (4, .int (nI (dfO g0 a a))), (3, .int (nI 2147483647)), (0, .ref (ad 70)), (1, .int (nI a)), (2, .int (nI b))] → W p l e rm_Lr s m args below meth c H locs 105 630 Q (F0 m 684 ls []) := by
  intro g z H locs ls hs hP hD hS hl
  refine lv_goto (tgt := 459) C.hx C.hb dL_refuses_684 (by decide) ?_
  refine lv_iload C.hx C.hb dL_refuses_459 (lv_at hl 0 rfl) ?_
  refine lv_bipush (v := nI 20) C.hx C.hb dL_refuses_461 (by decide +kernel) ?_
  refine lv_icmp_ge (tgt := 687) C.hx C.hb dL_refuses_463 (by decide) (fun c9 => absurd c9 (by decide +kernel)) (fun _ => ?_)
  refine lv_iload C.hx C.hb dL_refuses_466 (lv_at hl 1 rfl) ?_
  refine lv_if_eq (tgt := 687) C.hx C.hb dL_refuses_468 (by decide) (fun c9 => absurd c9 (by decide +kernel)) (fun _ => ?_)
  refine lv_iload C.hx C.hb dL_refuses_471 (lv_at hl 0 rfl) ?_
  refine lv_iconst (v := nI 4) C.hx C.hb dL_refuses_473 (by decide +kernel) ?_
  refine lv_icmp_lt (tgt := 497) C.hx C.hb dL_refuses_474 (by decide) (fun c9 => absurd c9 (by decide +kernel)) (fun _ => ?_)
  refine lv_iload C.hx C.hb dL_refuses_477 (lv_at hl 0 rfl) ?_
  refine lv_iconst (v := nI 5) C.hx C.hb dL_refuses_479 (by decide +kernel) ?_
  refine lv_icmp_le (tgt := 490) C.hx C.hb dL_refuses_480 (by decide) (fun c9 => absurd c9 (by decide +kernel)) (fun _ => ?_)
  refine lv_iload C.hx C.hb dL_refuses_483 (lv_at hl 0 rfl) ?_
  refine lv_bipush (v := nI 15) C.hx C.hb dL_refuses_485 (by decide +kernel) ?_
  refine lv_icmp_lt (tgt := 497) C.hx C.hb dL_refuses_487 (by decide) (fun c9 => absurd c9 (by decide +kernel)) (fun _ => ?_)
  refine lv_iload C.hx C.hb dL_refuses_490 (lv_at hl 0 rfl) ?_
  refine lv_bipush (v := nI 19) C.hx C.hb dL_refuses_492 (by decide +kernel) ?_
  refine lv_icmp_ne (tgt := 501) C.hx C.hb dL_refuses_494 (by decide) (fun _ => ?_) (fun c9 => absurd c9 (by decide +kernel))
  refine lv_iconst (v := nI 0) C.hx C.hb dL_refuses_501 (by decide +kernel) ?_
  refine lv_istore (lv' := [(14, .int (nI 0)), (13, .int (nI 16)), (12, .int (nI 1)), (15, .int (nI 0)), (11, .int (nI 10)), (10, .int (nI 8)), (9, .int (nI b)), (8, .int (nI a)), (7, .int (-2147483648)), (6, .int (-2147483648)), (5, .int (nI 1)), (4, .int (nI (dfO g0 a a))), (3, .int (nI 2147483647)), (0, .ref (ad 70)), (1, .int (nI a)), (2, .int (nI b))]) C.hx C.hb dL_refuses_502 hl (by decide) rfl (fun ls hl => ?_)
  refine lv_iload C.hx C.hb dL_refuses_504 (lv_at hl 1 rfl) ?_
  refine lv_iconst (v := nI 3) C.hx C.hb dL_refuses_506 (by decide +kernel) ?_
  refine lv_icmp_eq (tgt := 531) C.hx C.hb dL_refuses_507 (by decide) (fun c9 => absurd c9 (by decide +kernel)) (fun _ => ?_)
  refine lv_iload C.hx C.hb dL_refuses_510 (lv_at hl 1 rfl) ?_
  refine lv_bipush (v := nI 7) C.hx C.hb dL_refuses_512 (by decide +kernel) ?_
  refine lv_icmp_le (tgt := 524) C.hx C.hb dL_refuses_514 (by decide) (fun c9 => absurd c9 (by decide +kernel)) (fun _ => ?_)
  refine lv_iload C.hx C.hb dL_refuses_517 (lv_at hl 1 rfl) ?_
  refine lv_bipush (v := nI 13) C.hx C.hb dL_refuses_519 (by decide +kernel) ?_
  refine lv_icmp_lt (tgt := 531) C.hx C.hb dL_refuses_521 (by decide) (fun c9 => absurd c9 (by decide +kernel)) (fun _ => ?_)
  refine lv_iload C.hx C.hb dL_refuses_524 (lv_at hl 1 rfl) ?_
  refine lv_bipush (v := nI 19) C.hx C.hb dL_refuses_526 (by decide +kernel) ?_
  refine lv_icmp_ne (tgt := 535) C.hx C.hb dL_refuses_528 (by decide) (fun _ => ?_) (fun c9 => absurd c9 (by decide +kernel))
  refine lv_iconst (v := nI 0) C.hx C.hb dL_refuses_535 (by decide +kernel) ?_
  refine lv_istore (lv' := [(15, .int (nI 0)), (14, .int (nI 0)), (13, .int (nI 16)), (12, .int (nI 1)), (11, .int (nI 10)), (10, .int (nI 8)), (9, .int (nI b)), (8, .int (nI a)), (7, .int (-2147483648)), (6, .int (-2147483648)), (5, .int (nI 1)), (4, .int (nI (dfO g0 a a))), (3, .int (nI 2147483647)), (0, .ref (ad 70)), (1, .int (nI a)), (2, .int (nI b))]) C.hx C.hb dL_refuses_536 hl (by decide) rfl (fun ls hl => ?_)
  refine lv_iload C.hx C.hb dL_refuses_538 (lv_at hl 1 rfl) ?_
  refine lv_if_eq (tgt := 567) C.hx C.hb dL_refuses_540 (by decide) (fun _ => ?_) (fun c9 => absurd c9 (by decide +kernel))
  refine lv_iload C.hx C.hb dL_refuses_567 (lv_at hl 0 rfl) ?_
  refine lv_if_eq (tgt := 637) C.hx C.hb dL_refuses_569 (by decide) (fun _ => ?_) (fun c9 => absurd c9 (by decide +kernel))
  refine lv_iload C.hx C.hb dL_refuses_637 (lv_at hl 2 rfl) ?_
  refine lv_bipush (v := nI 15) C.hx C.hb dL_refuses_639 (by decide +kernel) ?_
  refine lv_icmp_eq (tgt := 658) C.hx C.hb dL_refuses_641 (by decide) (fun c9 => absurd c9 (by decide +kernel)) (fun _ => ?_)
  refine lv_iload C.hx C.hb dL_refuses_644 (lv_at hl 2 rfl) ?_
  refine lv_bipush (v := nI 16) C.hx C.hb dL_refuses_646 (by decide +kernel) ?_
  refine lv_icmp_eq (tgt := 658) C.hx C.hb dL_refuses_648 (by decide) (fun _ => ?_) (fun c9 => absurd c9 (by decide +kernel))
  refine lv_aload_n C.hx C.hb dL_refuses_658 rfl (lv_at hl 13 rfl) ?_
  refine lv_iload C.hx C.hb dL_refuses_659 (lv_at hl 2 rfl) ?_
  refine lv_iload C.hx C.hb dL_refuses_661 (lv_at hl 6 rfl) ?_
  refine lv_iconst (v := nI 0) C.hx C.hb dL_refuses_663 (by decide +kernel) ?_
  refine lv_iconst (v := nI 0) C.hx C.hb dL_refuses_664 (by decide +kernel) ?_
  refine lv_iconst (v := nI 0) C.hx C.hb dL_refuses_665 (by decide +kernel) ?_
  refine q_cR (w := 16) (p0 := nI b) (p1 := nI 0) (p2 := nI 0) (p3 := nI 0) (r := -7000001) (c2 := 106) (s2 := 636) C hs hP hD hS (ri_size C.htr (notn (by omega))) hl rfl (Nat.le_of_ble_eq_true rfl) ⟨Nat.le_of_ble_eq_true rfl, Nat.le_of_ble_eq_true rfl⟩ ⟨Nat.le_of_ble_eq_true rfl, Nat.le_of_ble_eq_true rfl⟩ ⟨Nat.le_of_ble_eq_true rfl, Nat.le_of_ble_eq_true rfl⟩ dL_refuses_666 (fun g z H locs hs hP hD hS => ?_)
  refine lv_ldc (v := -7000001) C.hx C.hb C.hown (C.hT.use kk_L_90 args) dL_refuses_669 ?_
  refine lv_icmp_ne (tgt := 678) C.hx C.hb dL_refuses_671 (by decide) (fun c9 => absurd c9 (by decide +kernel)) (fun _ => ?_)
  refine lv_iconst (v := nI 1) C.hx C.hb dL_refuses_674 (by decide +kernel) ?_
  refine lv_goto (tgt := 679) C.hx C.hb dL_refuses_675 (by decide) ?_
  refine lv_istore (lv' := [(12, .int (nI 1)), (15, .int (nI 0)), (14, .int (nI 0)), (13, .int (nI 16)), (11, .int (nI 10)), (10, .int (nI 8)), (9, .int (nI b)), (8, .int (nI a)), (7, .int (-2147483648)), (6, .int (-2147483648)), (5, .int (nI 1)), (4, .int (nI (dfO g0 a a))), (3, .int (nI 2147483647)), (0, .ref (ad 70)), (1, .int (nI a)), (2, .int (nI b))]) C.hx C.hb dL_refuses_679 hl (by decide) rfl (fun ls hl => ?_)
  refine lv_iinc (v := nI 17) (lv' := [(13, .int (nI 17)), (12, .int (nI 1)), (15, .int (nI 0)), (14, .int (nI 0)), (11, .int (nI 10)), (10, .int (nI 8)), (9, .int (nI b)), (8, .int (nI a)), (7, .int (-2147483648)), (6, .int (-2147483648)), (5, .int (nI 1)), (4, .int (nI (dfO g0 a a))), (3, .int (nI 2147483647)), (0, .ref (ad 70)), (1, .int (nI a)), (2, .int (nI b))]) C.hx C.hb dL_refuses_681 hl (k := 3) rfl (by decide +kernel) (by decide) rfl (fun ls hl => ?_)
  refine lv_goto (tgt := 459) C.hx C.hb dL_refuses_684 (by decide) ?_
  refine lv_iload C.hx C.hb dL_refuses_459 (lv_at hl 0 rfl) ?_
  refine lv_bipush (v := nI 20) C.hx C.hb dL_refuses_461 (by decide +kernel) ?_
  refine lv_icmp_ge (tgt := 687) C.hx C.hb dL_refuses_463 (by decide) (fun c9 => absurd c9 (by decide +kernel)) (fun _ => ?_)
  exact kk g z H locs ls hs hP hD hS hl

set_option maxRecDepth 100000 in
set_option maxHeartbeats 4000000 in
theorem tf_49 {p : Program} {l : Launch} {e : Env} {s : State} {m : MethodId} {args : Array Value} {below : List Frame} {meth : Method} {c : Code} {D : va_G} {cA : ClassId} {A : Nat → Prop} {ad : Nat → Nat} {Q : State → Prop} {g0 : Nat → Nat → Int32} {a t b : Nat} (ha : a ≤ 16) (hb9 : b ≤ 40) (hab : 0 < a → 0 < b) (C : lcx p l s m c cL_refuses 16 D cA A) (kk : ∀ (g : Nat → Nat → Int32) (z : Nat → Nat) (H : Heap) (locs : List Loc) (ls : Array Slot), SR g0 a t b g z → va_P D vwCl (rlW cA ad g z) H → va_D A (rlW cA ad g z) → va_S A s.heap H locs → lv_has ls 16 [(13, .int (nI 18)), (15, .int (nI 0)), (14, .int (nI 0)), (12, .int (nI 1)), (11, .int (nI 10)), (10, .int (nI 8)), (9, .int (nI b)), (8, .int (nI a)), (7, .int (-2147483648)), (6, .int (-2147483648)), (5, .int (nI 1)), (4, .int (nI (dfO g0 a a))), (3, .int (nI 2147483647)), (0, .ref (ad 70)), (1, .int (nI a)), (2, .int (nI b))] → W p l e rm_Lr s m args below meth c H locs 106 636 Q (F0 m 501 ls [])) : ∀ (g : Nat → Nat → Int32) (z : Nat → Nat) (H : Heap) (locs : List Loc) (ls : Array Slot), SR g0 a t b g z → va_P D vwCl (rlW cA ad g z) H → va_D A (rlW cA ad g z) → va_S A s.heap H locs → lv_has ls 16 [(13, .int (nI 17)), (12, .int (nI 1)), (15, .int (nI 0)), (14, .int (nI 0)), (11, .int (nI 10)), (10, .int (nI 8)), (9, .int (nI b)), (8, .int (nI a)), (7, .int (-2147483648)), (6, .int (-2147483648)), (5, .int (nI 1)), (4, .int (nI (dfO g0 a a))), (3, .int (nI 2147483647)), (0, .ref (ad 70)), (1, .int (nI a)), (2, .int (nI b))] → W p l e rm_Lr s m args below meth c H locs 106 636 Q (F0 m 466 ls []) := by
  intro g z H locs ls hs hP hD hS hl
  refine lv_iload C.hx C.hb dL_refuses_466 (lv_at hl 1 rfl) ?_
  refine lv_if_eq (tgt := 687) C.hx C.hb dL_refuses_468 (by decide) (fun c9 => absurd c9 (by decide +kernel)) (fun _ => ?_)
  refine lv_iload C.hx C.hb dL_refuses_471 (lv_at hl 0 rfl) ?_
  refine lv_iconst (v := nI 4) C.hx C.hb dL_refuses_473 (by decide +kernel) ?_
  refine lv_icmp_lt (tgt := 497) C.hx C.hb dL_refuses_474 (by decide) (fun c9 => absurd c9 (by decide +kernel)) (fun _ => ?_)
  refine lv_iload C.hx C.hb dL_refuses_477 (lv_at hl 0 rfl) ?_
  refine lv_iconst (v := nI 5) C.hx C.hb dL_refuses_479 (by decide +kernel) ?_
  refine lv_icmp_le (tgt := 490) C.hx C.hb dL_refuses_480 (by decide) (fun c9 => absurd c9 (by decide +kernel)) (fun _ => ?_)
  refine lv_iload C.hx C.hb dL_refuses_483 (lv_at hl 0 rfl) ?_
  refine lv_bipush (v := nI 15) C.hx C.hb dL_refuses_485 (by decide +kernel) ?_
  refine lv_icmp_lt (tgt := 497) C.hx C.hb dL_refuses_487 (by decide) (fun c9 => absurd c9 (by decide +kernel)) (fun _ => ?_)
  refine lv_iload C.hx C.hb dL_refuses_490 (lv_at hl 0 rfl) ?_
  refine lv_bipush (v := nI 19) C.hx C.hb dL_refuses_492 (by decide +kernel) ?_
  refine lv_icmp_ne (tgt := 501) C.hx C.hb dL_refuses_494 (by decide) (fun _ => ?_) (fun c9 => absurd c9 (by decide +kernel))
  refine lv_iconst (v := nI 0) C.hx C.hb dL_refuses_501 (by decide +kernel) ?_
  refine lv_istore (lv' := [(14, .int (nI 0)), (13, .int (nI 17)), (12, .int (nI 1)), (15, .int (nI 0)), (11, .int (nI 10)), (10, .int (nI 8)), (9, .int (nI b)), (8, .int (nI a)), (7, .int (-2147483648)), (6, .int (-2147483648)), (5, .int (nI 1)), (4, .int (nI (dfO g0 a a))), (3, .int (nI 2147483647)), (0, .ref (ad 70)), (1, .int (nI a)), (2, .int (nI b))]) C.hx C.hb dL_refuses_502 hl (by decide) rfl (fun ls hl => ?_)
  refine lv_iload C.hx C.hb dL_refuses_504 (lv_at hl 1 rfl) ?_
  refine lv_iconst (v := nI 3) C.hx C.hb dL_refuses_506 (by decide +kernel) ?_
  refine lv_icmp_eq (tgt := 531) C.hx C.hb dL_refuses_507 (by decide) (fun c9 => absurd c9 (by decide +kernel)) (fun _ => ?_)
  refine lv_iload C.hx C.hb dL_refuses_510 (lv_at hl 1 rfl) ?_
  refine lv_bipush (v := nI 7) C.hx C.hb dL_refuses_512 (by decide +kernel) ?_
  refine lv_icmp_le (tgt := 524) C.hx C.hb dL_refuses_514 (by decide) (fun c9 => absurd c9 (by decide +kernel)) (fun _ => ?_)
  refine lv_iload C.hx C.hb dL_refuses_517 (lv_at hl 1 rfl) ?_
  refine lv_bipush (v := nI 13) C.hx C.hb dL_refuses_519 (by decide +kernel) ?_
  refine lv_icmp_lt (tgt := 531) C.hx C.hb dL_refuses_521 (by decide) (fun c9 => absurd c9 (by decide +kernel)) (fun _ => ?_)
  refine lv_iload C.hx C.hb dL_refuses_524 (lv_at hl 1 rfl) ?_
  refine lv_bipush (v := nI 19) C.hx C.hb dL_refuses_526 (by decide +kernel) ?_
  refine lv_icmp_ne (tgt := 535) C.hx C.hb dL_refuses_528 (by decide) (fun _ => ?_) (fun c9 => absurd c9 (by decide +kernel))
  refine lv_iconst (v := nI 0) C.hx C.hb dL_refuses_535 (by decide +kernel) ?_
  refine lv_istore (lv' := [(15, .int (nI 0)), (14, .int (nI 0)), (13, .int (nI 17)), (12, .int (nI 1)), (11, .int (nI 10)), (10, .int (nI 8)), (9, .int (nI b)), (8, .int (nI a)), (7, .int (-2147483648)), (6, .int (-2147483648)), (5, .int (nI 1)), (4, .int (nI (dfO g0 a a))), (3, .int (nI 2147483647)), (0, .ref (ad 70)), (1, .int (nI a)), (2, .int (nI b))]) C.hx C.hb dL_refuses_536 hl (by decide) rfl (fun ls hl => ?_)
  refine lv_iload C.hx C.hb dL_refuses_538 (lv_at hl 1 rfl) ?_
  refine lv_if_eq (tgt := 567) C.hx C.hb dL_refuses_540 (by decide) (fun _ => ?_) (fun c9 => absurd c9 (by decide +kernel))
  refine lv_iload C.hx C.hb dL_refuses_567 (lv_at hl 0 rfl) ?_
  refine lv_if_eq (tgt := 637) C.hx C.hb dL_refuses_569 (by decide) (fun _ => ?_) (fun c9 => absurd c9 (by decide +kernel))
  refine lv_iload C.hx C.hb dL_refuses_637 (lv_at hl 2 rfl) ?_
  refine lv_bipush (v := nI 15) C.hx C.hb dL_refuses_639 (by decide +kernel) ?_
  refine lv_icmp_eq (tgt := 658) C.hx C.hb dL_refuses_641 (by decide) (fun c9 => absurd c9 (by decide +kernel)) (fun _ => ?_)
  refine lv_iload C.hx C.hb dL_refuses_644 (lv_at hl 2 rfl) ?_
  refine lv_bipush (v := nI 16) C.hx C.hb dL_refuses_646 (by decide +kernel) ?_
  refine lv_icmp_eq (tgt := 658) C.hx C.hb dL_refuses_648 (by decide) (fun c9 => absurd c9 (by decide +kernel)) (fun _ => ?_)
  refine lv_iload C.hx C.hb dL_refuses_651 (lv_at hl 2 rfl) ?_
  refine lv_bipush (v := nI 18) C.hx C.hb dL_refuses_653 (by decide +kernel) ?_
  refine lv_icmp_ne (tgt := 681) C.hx C.hb dL_refuses_655 (by decide) (fun _ => ?_) (fun c9 => absurd c9 (by decide +kernel))
  refine lv_iinc (v := nI 18) (lv' := [(13, .int (nI 18)), (15, .int (nI 0)), (14, .int (nI 0)), (12, .int (nI 1)), (11, .int (nI 10)), (10, .int (nI 8)), (9, .int (nI b)), (8, .int (nI a)), (7, .int (-2147483648)), (6, .int (-2147483648)), (5, .int (nI 1)), (4, .int (nI (dfO g0 a a))), (3, .int (nI 2147483647)), (0, .ref (ad 70)), (1, .int (nI a)), (2, .int (nI b))]) C.hx C.hb dL_refuses_681 hl (k := 2) rfl (by decide +kernel) (by decide) rfl (fun ls hl => ?_)
  refine lv_goto (tgt := 459) C.hx C.hb dL_refuses_684 (by decide) ?_
  refine lv_iload C.hx C.hb dL_refuses_459 (lv_at hl 0 rfl) ?_
  refine lv_bipush (v := nI 20) C.hx C.hb dL_refuses_461 (by decide +kernel) ?_
  refine lv_icmp_ge (tgt := 687) C.hx C.hb dL_refuses_463 (by decide) (fun c9 => absurd c9 (by decide +kernel)) (fun _ => ?_)
  refine lv_iload C.hx C.hb dL_refuses_466 (lv_at hl 3 rfl) ?_
  refine lv_if_eq (tgt := 687) C.hx C.hb dL_refuses_468 (by decide) (fun c9 => absurd c9 (by decide +kernel)) (fun _ => ?_)
  refine lv_iload C.hx C.hb dL_refuses_471 (lv_at hl 0 rfl) ?_
  refine lv_iconst (v := nI 4) C.hx C.hb dL_refuses_473 (by decide +kernel) ?_
  refine lv_icmp_lt (tgt := 497) C.hx C.hb dL_refuses_474 (by decide) (fun c9 => absurd c9 (by decide +kernel)) (fun _ => ?_)
  refine lv_iload C.hx C.hb dL_refuses_477 (lv_at hl 0 rfl) ?_
  refine lv_iconst (v := nI 5) C.hx C.hb dL_refuses_479 (by decide +kernel) ?_
  refine lv_icmp_le (tgt := 490) C.hx C.hb dL_refuses_480 (by decide) (fun c9 => absurd c9 (by decide +kernel)) (fun _ => ?_)
  refine lv_iload C.hx C.hb dL_refuses_483 (lv_at hl 0 rfl) ?_
  refine lv_bipush (v := nI 15) C.hx C.hb dL_refuses_485 (by decide +kernel) ?_
  refine lv_icmp_lt (tgt := 497) C.hx C.hb dL_refuses_487 (by decide) (fun c9 => absurd c9 (by decide +kernel)) (fun _ => ?_)
  refine lv_iload C.hx C.hb dL_refuses_490 (lv_at hl 0 rfl) ?_
  refine lv_bipush (v := nI 19) C.hx C.hb dL_refuses_492 (by decide +kernel) ?_
  refine lv_icmp_ne (tgt := 501) C.hx C.hb dL_refuses_494 (by decide) (fun _ => ?_) (fun c9 => absurd c9 (by decide +kernel))
  exact kk g z H locs ls hs hP hD hS hl

set_option maxRecDepth 100000 in
set_option maxHeartbeats 4000000 in
theorem tf_50 {p : Program} {l : Launch} {e : Env} {s : State} {m : MethodId} {args : Array Value} {below : List Frame} {meth : Method} {c : Code} {D : va_G} {cA : ClassId} {A : Nat → Prop} {ad : Nat → Nat} {Q : State → Prop} {g0 : Nat → Nat → Int32} {a t b : Nat} (ha : a ≤ 16) (hb9 : b ≤ 40) (hab : 0 < a → 0 < b) (C : lcx p l s m c cL_refuses 16 D cA A) (kk : ∀ (g : Nat → Nat → Int32) (z : Nat → Nat) (H : Heap) (locs : List Loc) (ls : Array Slot), SR g0 a t b g z → va_P D vwCl (rlW cA ad g z) H → va_D A (rlW cA ad g z) → va_S A s.heap H locs → lv_has ls 16 [(14, .int (nI 1)), (13, .int (nI 19)), (12, .int (nI 1)), (15, .int (nI 0)), (11, .int (nI 10)), (10, .int (nI 8)), (9, .int (nI b)), (8, .int (nI a)), (7, .int (-2147483648)), (6, .int (-2147483648)), (5, .int (nI 1)), (4, .int (nI (dfO g0 a a))), (3, .int (nI 2147483647)), (0, .ref (ad 70)), (1, .int (nI a)), (2, .int (nI b))] → W p l e rm_Lr s m args below meth c H locs 107 642 Q (F0 m 504 ls [])) : ∀ (g : Nat → Nat → Int32) (z : Nat → Nat) (H : Heap) (locs : List Loc) (ls : Array Slot), SR g0 a t b g z → va_P D vwCl (rlW cA ad g z) H → va_D A (rlW cA ad g z) → va_S A s.heap H locs → lv_has ls 16 [(13, .int (nI 18)), (15, .int (nI 0)), (14, .int (nI 0)), (12, .int (nI 1)), (11, .int (nI 10)), (10, .int (nI 8)), (9, .int (nI b)), (8, .int (nI a)), (7, .int (-2147483648)), (6, .int (-2147483648)), (5, .int (nI 1)), (4, .int (nI (dfO g0 a a))), (3, .int (nI 2147483647)), (0, .ref (ad 70)), (1, .int (nI a)), (2, .int (nI b))] → W p l e rm_Lr s m args below meth c H locs 106 636 Q (F0 m 501 ls []) := by
  intro g z H locs ls hs hP hD hS hl
  refine lv_iconst (v := nI 0) C.hx C.hb dL_refuses_501 (by decide +kernel) ?_
  refine lv_istore (lv' := [(14, .int (nI 0)), (13, .int (nI 18)), (15, .int (nI 0)), (12, .int (nI 1)), (11, .int (nI 10)), (10, .int (nI 8)), (9, .int (nI b)), (8, .int (nI a)), (7, .int (-2147483648)), (6, .int (-2147483648)), (5, .int (nI 1)), (4, .int (nI (dfO g0 a a))), (3, .int (nI 2147483647)), (0, .ref (ad 70)), (1, .int (nI a)), (2, .int (nI b))]) C.hx C.hb dL_refuses_502 hl (by decide) rfl (fun ls hl => ?_)
  refine lv_iload C.hx C.hb dL_refuses_504 (lv_at hl 1 rfl) ?_
  refine lv_iconst (v := nI 3) C.hx C.hb dL_refuses_506 (by decide +kernel) ?_
  refine lv_icmp_eq (tgt := 531) C.hx C.hb dL_refuses_507 (by decide) (fun c9 => absurd c9 (by decide +kernel)) (fun _ => ?_)
  refine lv_iload C.hx C.hb dL_refuses_510 (lv_at hl 1 rfl) ?_
  refine lv_bipush (v := nI 7) C.hx C.hb dL_refuses_512 (by decide +kernel) ?_
  refine lv_icmp_le (tgt := 524) C.hx C.hb dL_refuses_514 (by decide) (fun c9 => absurd c9 (by decide +kernel)) (fun _ => ?_)
  refine lv_iload C.hx C.hb dL_refuses_517 (lv_at hl 1 rfl) ?_
  refine lv_bipush (v := nI 13) C.hx C.hb dL_refuses_519 (by decide +kernel) ?_
  refine lv_icmp_lt (tgt := 531) C.hx C.hb dL_refuses_521 (by decide) (fun c9 => absurd c9 (by decide +kernel)) (fun _ => ?_)
  refine lv_iload C.hx C.hb dL_refuses_524 (lv_at hl 1 rfl) ?_
  refine lv_bipush (v := nI 19) C.hx C.hb dL_refuses_526 (by decide +kernel) ?_
  refine lv_icmp_ne (tgt := 535) C.hx C.hb dL_refuses_528 (by decide) (fun _ => ?_) (fun c9 => absurd c9 (by decide +kernel))
  refine lv_iconst (v := nI 0) C.hx C.hb dL_refuses_535 (by decide +kernel) ?_
  refine lv_istore (lv' := [(15, .int (nI 0)), (14, .int (nI 0)), (13, .int (nI 18)), (12, .int (nI 1)), (11, .int (nI 10)), (10, .int (nI 8)), (9, .int (nI b)), (8, .int (nI a)), (7, .int (-2147483648)), (6, .int (-2147483648)), (5, .int (nI 1)), (4, .int (nI (dfO g0 a a))), (3, .int (nI 2147483647)), (0, .ref (ad 70)), (1, .int (nI a)), (2, .int (nI b))]) C.hx C.hb dL_refuses_536 hl (by decide) rfl (fun ls hl => ?_)
  refine lv_iload C.hx C.hb dL_refuses_538 (lv_at hl 1 rfl) ?_
  refine lv_if_eq (tgt := 567) C.hx C.hb dL_refuses_540 (by decide) (fun _ => ?_) (fun c9 => absurd c9 (by decide +kernel))
  refine lv_iload C.hx C.hb dL_refuses_567 (lv_at hl 0 rfl) ?_
  refine lv_if_eq (tgt := 637) C.hx C.hb dL_refuses_569 (by decide) (fun _ => ?_) (fun c9 => absurd c9 (by decide +kernel))
  refine lv_iload C.hx C.hb dL_refuses_637 (lv_at hl 2 rfl) ?_
  refine lv_bipush (v := nI 15) C.hx C.hb dL_refuses_639 (by decide +kernel) ?_
  refine lv_icmp_eq (tgt := 658) C.hx C.hb dL_refuses_641 (by decide) (fun c9 => absurd c9 (by decide +kernel)) (fun _ => ?_)
  refine lv_iload C.hx C.hb dL_refuses_644 (lv_at hl 2 rfl) ?_
  refine lv_bipush (v := nI 16) C.hx C.hb dL_refuses_646 (by decide +kernel) ?_
  refine lv_icmp_eq (tgt := 658) C.hx C.hb dL_refuses_648 (by decide) (fun c9 => absurd c9 (by decide +kernel)) (fun _ => ?_)
  refine lv_iload C.hx C.hb dL_refuses_651 (lv_at hl 2 rfl) ?_
  refine lv_bipush (v := nI 18) C.hx C.hb dL_refuses_653 (by decide +kernel) ?_
  refine lv_icmp_ne (tgt := 681) C.hx C.hb dL_refuses_655 (by decide) (fun c9 => absurd c9 (by decide +kernel)) (fun _ => ?_)
  refine lv_aload_n C.hx C.hb dL_refuses_658 rfl (lv_at hl 13 rfl) ?_
  refine lv_iload C.hx C.hb dL_refuses_659 (lv_at hl 2 rfl) ?_
  refine lv_iload C.hx C.hb dL_refuses_661 (lv_at hl 6 rfl) ?_
  refine lv_iconst (v := nI 0) C.hx C.hb dL_refuses_663 (by decide +kernel) ?_
  refine lv_iconst (v := nI 0) C.hx C.hb dL_refuses_664 (by decide +kernel) ?_
  refine lv_iconst (v := nI 0) C.hx C.hb dL_refuses_665 (by decide +kernel) ?_
  refine q_cR (w := 18) (p0 := nI b) (p1 := nI 0) (p2 := nI 0) (p3 := nI 0) (r := -7000001) (c2 := 107) (s2 := 642) C hs hP hD hS (ri_breaches C.htr (notn (by omega))) hl rfl (Nat.le_of_ble_eq_true rfl) ⟨Nat.le_of_ble_eq_true rfl, Nat.le_of_ble_eq_true rfl⟩ ⟨Nat.le_of_ble_eq_true rfl, Nat.le_of_ble_eq_true rfl⟩ ⟨Nat.le_of_ble_eq_true rfl, Nat.le_of_ble_eq_true rfl⟩ dL_refuses_666 (fun g z H locs hs hP hD hS => ?_)
  refine lv_ldc (v := -7000001) C.hx C.hb C.hown (C.hT.use kk_L_90 args) dL_refuses_669 ?_
  refine lv_icmp_ne (tgt := 678) C.hx C.hb dL_refuses_671 (by decide) (fun c9 => absurd c9 (by decide +kernel)) (fun _ => ?_)
  refine lv_iconst (v := nI 1) C.hx C.hb dL_refuses_674 (by decide +kernel) ?_
  refine lv_goto (tgt := 679) C.hx C.hb dL_refuses_675 (by decide) ?_
  refine lv_istore (lv' := [(12, .int (nI 1)), (15, .int (nI 0)), (14, .int (nI 0)), (13, .int (nI 18)), (11, .int (nI 10)), (10, .int (nI 8)), (9, .int (nI b)), (8, .int (nI a)), (7, .int (-2147483648)), (6, .int (-2147483648)), (5, .int (nI 1)), (4, .int (nI (dfO g0 a a))), (3, .int (nI 2147483647)), (0, .ref (ad 70)), (1, .int (nI a)), (2, .int (nI b))]) C.hx C.hb dL_refuses_679 hl (by decide) rfl (fun ls hl => ?_)
  refine lv_iinc (v := nI 19) (lv' := [(13, .int (nI 19)), (12, .int (nI 1)), (15, .int (nI 0)), (14, .int (nI 0)), (11, .int (nI 10)), (10, .int (nI 8)), (9, .int (nI b)), (8, .int (nI a)), (7, .int (-2147483648)), (6, .int (-2147483648)), (5, .int (nI 1)), (4, .int (nI (dfO g0 a a))), (3, .int (nI 2147483647)), (0, .ref (ad 70)), (1, .int (nI a)), (2, .int (nI b))]) C.hx C.hb dL_refuses_681 hl (k := 3) rfl (by decide +kernel) (by decide) rfl (fun ls hl => ?_)
  refine lv_goto (tgt := 459) C.hx C.hb dL_refuses_684 (by decide) ?_
  refine lv_iload C.hx C.hb dL_refuses_459 (lv_at hl 0 rfl) ?_
  refine lv_bipush (v := nI 20) C.hx C.hb dL_refuses_461 (by decide +kernel) ?_
  refine lv_icmp_ge (tgt := 687) C.hx C.hb dL_refuses_463 (by decide) (fun c9 => absurd c9 (by decide +kernel)) (fun _ => ?_)
  refine lv_iload C.hx C.hb dL_refuses_466 (lv_at hl 1 rfl) ?_
  refine lv_if_eq (tgt := 687) C.hx C.hb dL_refuses_468 (by decide) (fun c9 => absurd c9 (by decide +kernel)) (fun _ => ?_)
  refine lv_iload C.hx C.hb dL_refuses_471 (lv_at hl 0 rfl) ?_
  refine lv_iconst (v := nI 4) C.hx C.hb dL_refuses_473 (by decide +kernel) ?_
  refine lv_icmp_lt (tgt := 497) C.hx C.hb dL_refuses_474 (by decide) (fun c9 => absurd c9 (by decide +kernel)) (fun _ => ?_)
  refine lv_iload C.hx C.hb dL_refuses_477 (lv_at hl 0 rfl) ?_
  refine lv_iconst (v := nI 5) C.hx C.hb dL_refuses_479 (by decide +kernel) ?_
  refine lv_icmp_le (tgt := 490) C.hx C.hb dL_refuses_480 (by decide) (fun c9 => absurd c9 (by decide +kernel)) (fun _ => ?_)
  refine lv_iload C.hx C.hb dL_refuses_483 (lv_at hl 0 rfl) ?_
  refine lv_bipush (v := nI 15) C.hx C.hb dL_refuses_485 (by decide +kernel) ?_
  refine lv_icmp_lt (tgt := 497) C.hx C.hb dL_refuses_487 (by decide) (fun c9 => absurd c9 (by decide +kernel)) (fun _ => ?_)
  refine lv_iload C.hx C.hb dL_refuses_490 (lv_at hl 0 rfl) ?_
  refine lv_bipush (v := nI 19) C.hx C.hb dL_refuses_492 (by decide +kernel) ?_
  refine lv_icmp_ne (tgt := 501) C.hx C.hb dL_refuses_494 (by decide) (fun c9 => absurd c9 (by decide +kernel)) (fun _ => ?_)
  refine lv_iconst (v := nI 1) C.hx C.hb dL_refuses_497 (by decide +kernel) ?_
  refine lv_goto (tgt := 502) C.hx C.hb dL_refuses_498 (by decide) ?_
  refine lv_istore (lv' := [(14, .int (nI 1)), (13, .int (nI 19)), (12, .int (nI 1)), (15, .int (nI 0)), (11, .int (nI 10)), (10, .int (nI 8)), (9, .int (nI b)), (8, .int (nI a)), (7, .int (-2147483648)), (6, .int (-2147483648)), (5, .int (nI 1)), (4, .int (nI (dfO g0 a a))), (3, .int (nI 2147483647)), (0, .ref (ad 70)), (1, .int (nI a)), (2, .int (nI b))]) C.hx C.hb dL_refuses_502 hl (by decide) rfl (fun ls hl => ?_)
  exact kk g z H locs ls hs hP hD hS hl

set_option maxRecDepth 100000 in
set_option maxHeartbeats 4000000 in
theorem tf_51 {p : Program} {l : Launch} {e : Env} {s : State} {m : MethodId} {args : Array Value} {below : List Frame} {meth : Method} {c : Code} {D : va_G} {cA : ClassId} {A : Nat → Prop} {ad : Nat → Nat} {Q : State → Prop} {g0 : Nat → Nat → Int32} {a t b : Nat} (ha : a ≤ 16) (hb9 : b ≤ 40) (hab : 0 < a → 0 < b) (C : lcx p l s m c cL_refuses 16 D cA A) (kk : ∀ (g : Nat → Nat → Int32) (z : Nat → Nat) (H : Heap) (locs : List Loc) (ls : Array Slot), SR g0 a t b g z → va_P D vwCl (rlW cA ad g z) H → va_D A (rlW cA ad g z) → va_S A s.heap H locs → lv_has ls 16 [(12, .int (nI 1)), (15, .int (nI 1)), (14, .int (nI 1)), (13, .int (nI 19)), (11, .int (nI 10)), (10, .int (nI 8)), (9, .int (nI b)), (8, .int (nI a)), (7, .int (-2147483648)), (6, .int (-2147483648)), (5, .int (nI 1)), (4, .int (nI (dfO g0 a a))), (3, .int (nI 2147483647)), (0, .ref (ad 70)), (1, .int (nI a)), (2, .int (nI b))] → W p l e rm_Lr s m args below meth c H locs 111 666 Q (F0 m 630 ls [])) : ∀ (g : Nat → Nat → Int32) (z : Nat → Nat) (H : Heap) (locs : List Loc) (ls : Array Slot), SR g0 a t b g z → va_P D vwCl (rlW cA ad g z) H → va_D A (rlW cA ad g z) → va_S A s.heap H locs → lv_has ls 16 [(14, .int (nI 1)), (13, .int (nI 19)), (12, .int (nI 1)), (15, .int (nI 0)), (11, .int (nI 10)), (10, .int (nI 8)), (9, .int (nI b)), (8, .int (nI a)), (7, .int (-2147483648)), (6, .int (-2147483648)), (5, .int (nI 1)), (4, .int (nI (dfO g0 a a))), (3, .int (nI 2147483647)), (0, .ref (ad 70)), (1, .int (nI a)), (2, .int (nI b))] → W p l e rm_Lr s m args below meth c H locs 107 642 Q (F0 m 504 ls []) := by
  intro g z H locs ls hs hP hD hS hl
  refine lv_iload C.hx C.hb dL_refuses_504 (lv_at hl 1 rfl) ?_
  refine lv_iconst (v := nI 3) C.hx C.hb dL_refuses_506 (by decide +kernel) ?_
  refine lv_icmp_eq (tgt := 531) C.hx C.hb dL_refuses_507 (by decide) (fun c9 => absurd c9 (by decide +kernel)) (fun _ => ?_)
  refine lv_iload C.hx C.hb dL_refuses_510 (lv_at hl 1 rfl) ?_
  refine lv_bipush (v := nI 7) C.hx C.hb dL_refuses_512 (by decide +kernel) ?_
  refine lv_icmp_le (tgt := 524) C.hx C.hb dL_refuses_514 (by decide) (fun c9 => absurd c9 (by decide +kernel)) (fun _ => ?_)
  refine lv_iload C.hx C.hb dL_refuses_517 (lv_at hl 1 rfl) ?_
  refine lv_bipush (v := nI 13) C.hx C.hb dL_refuses_519 (by decide +kernel) ?_
  refine lv_icmp_lt (tgt := 531) C.hx C.hb dL_refuses_521 (by decide) (fun c9 => absurd c9 (by decide +kernel)) (fun _ => ?_)
  refine lv_iload C.hx C.hb dL_refuses_524 (lv_at hl 1 rfl) ?_
  refine lv_bipush (v := nI 19) C.hx C.hb dL_refuses_526 (by decide +kernel) ?_
  refine lv_icmp_ne (tgt := 535) C.hx C.hb dL_refuses_528 (by decide) (fun c9 => absurd c9 (by decide +kernel)) (fun _ => ?_)
  refine lv_iconst (v := nI 1) C.hx C.hb dL_refuses_531 (by decide +kernel) ?_
  refine lv_goto (tgt := 536) C.hx C.hb dL_refuses_532 (by decide) ?_
  refine lv_istore (lv' := [(15, .int (nI 1)), (14, .int (nI 1)), (13, .int (nI 19)), (12, .int (nI 1)), (11, .int (nI 10)), (10, .int (nI 8)), (9, .int (nI b)), (8, .int (nI a)), (7, .int (-2147483648)), (6, .int (-2147483648)), (5, .int (nI 1)), (4, .int (nI (dfO g0 a a))), (3, .int (nI 2147483647)), (0, .ref (ad 70)), (1, .int (nI a)), (2, .int (nI b))]) C.hx C.hb dL_refuses_536 hl (by decide) rfl (fun ls hl => ?_)
  refine lv_iload C.hx C.hb dL_refuses_538 (lv_at hl 1 rfl) ?_
  refine lv_if_eq (tgt := 567) C.hx C.hb dL_refuses_540 (by decide) (fun c9 => absurd c9 (by decide +kernel)) (fun _ => ?_)
  refine lv_aload_n C.hx C.hb dL_refuses_543 rfl (lv_at hl 13 rfl) ?_
  refine lv_iload C.hx C.hb dL_refuses_544 (lv_at hl 2 rfl) ?_
  refine lv_iload C.hx C.hb dL_refuses_546 (lv_at hl 7 rfl) ?_
  refine lv_iconst (v := nI 0) C.hx C.hb dL_refuses_548 (by decide +kernel) ?_
  refine lv_bipush (v := nI 99) C.hx C.hb dL_refuses_549 (by decide +kernel) ?_
  refine lv_iconst (v := nI 0) C.hx C.hb dL_refuses_551 (by decide +kernel) ?_
  refine q_cR (w := 19) (p0 := nI a) (p1 := nI 0) (p2 := nI 99) (p3 := nI 0) (r := -7000001) (c2 := 108) (s2 := 648) C hs hP hD hS (ri_kin C.htr (notn (by omega))) hl rfl (Nat.le_of_ble_eq_true rfl) ⟨Nat.le_of_ble_eq_true rfl, Nat.le_of_ble_eq_true rfl⟩ ⟨Nat.le_of_ble_eq_true rfl, Nat.le_of_ble_eq_true rfl⟩ ⟨Nat.le_of_ble_eq_true rfl, Nat.le_of_ble_eq_true rfl⟩ dL_refuses_552 (fun g z H locs hs hP hD hS => ?_)
  refine lv_ldc (v := -7000001) C.hx C.hb C.hown (C.hT.use kk_L_90 args) dL_refuses_555 ?_
  refine lv_icmp_ne (tgt := 564) C.hx C.hb dL_refuses_557 (by decide) (fun c9 => absurd c9 (by decide +kernel)) (fun _ => ?_)
  refine lv_iconst (v := nI 1) C.hx C.hb dL_refuses_560 (by decide +kernel) ?_
  refine lv_goto (tgt := 565) C.hx C.hb dL_refuses_561 (by decide) ?_
  refine lv_istore (lv' := [(12, .int (nI 1)), (15, .int (nI 1)), (14, .int (nI 1)), (13, .int (nI 19)), (11, .int (nI 10)), (10, .int (nI 8)), (9, .int (nI b)), (8, .int (nI a)), (7, .int (-2147483648)), (6, .int (-2147483648)), (5, .int (nI 1)), (4, .int (nI (dfO g0 a a))), (3, .int (nI 2147483647)), (0, .ref (ad 70)), (1, .int (nI a)), (2, .int (nI b))]) C.hx C.hb dL_refuses_565 hl (by decide) rfl (fun ls hl => ?_)
  refine lv_iload C.hx C.hb dL_refuses_567 (lv_at hl 1 rfl) ?_
  refine lv_if_eq (tgt := 637) C.hx C.hb dL_refuses_569 (by decide) (fun c9 => absurd c9 (by decide +kernel)) (fun _ => ?_)
  refine lv_iload C.hx C.hb dL_refuses_572 (lv_at hl 0 rfl) ?_
  refine lv_if_eq (tgt := 634) C.hx C.hb dL_refuses_574 (by decide) (fun c9 => absurd c9 (by decide +kernel)) (fun _ => ?_)
  refine lv_aload_n C.hx C.hb dL_refuses_577 rfl (lv_at hl 13 rfl) ?_
  refine lv_iload C.hx C.hb dL_refuses_578 (lv_at hl 3 rfl) ?_
  refine lv_iconst (v := nI 0) C.hx C.hb dL_refuses_580 (by decide +kernel) ?_
  refine lv_iload C.hx C.hb dL_refuses_581 (lv_at hl 7 rfl) ?_
  refine lv_bipush (v := nI 99) C.hx C.hb dL_refuses_583 (by decide +kernel) ?_
  refine lv_iconst (v := nI 0) C.hx C.hb dL_refuses_585 (by decide +kernel) ?_
  refine q_cR (w := 19) (p0 := nI 0) (p1 := nI a) (p2 := nI 99) (p3 := nI 0) (r := -7000001) (c2 := 109) (s2 := 654) C hs hP hD hS (rj_kin C.htr (notn (by omega))) hl rfl (Nat.le_of_ble_eq_true rfl) ⟨Nat.le_of_ble_eq_true rfl, Nat.le_of_ble_eq_true rfl⟩ ⟨Nat.le_of_ble_eq_true rfl, Nat.le_of_ble_eq_true rfl⟩ ⟨Nat.le_of_ble_eq_true rfl, Nat.le_of_ble_eq_true rfl⟩ dL_refuses_586 (fun g z H locs hs hP hD hS => ?_)
  refine lv_ldc (v := -7000001) C.hx C.hb C.hown (C.hT.use kk_L_90 args) dL_refuses_589 ?_
  refine lv_icmp_ne (tgt := 634) C.hx C.hb dL_refuses_591 (by decide) (fun c9 => absurd c9 (by decide +kernel)) (fun _ => ?_)
  refine lv_aload_n C.hx C.hb dL_refuses_594 rfl (lv_at hl 13 rfl) ?_
  refine lv_iload C.hx C.hb dL_refuses_595 (lv_at hl 3 rfl) ?_
  refine lv_iload C.hx C.hb dL_refuses_597 (lv_at hl 7 rfl) ?_
  refine lv_iload C.hx C.hb dL_refuses_599 (lv_at hl 7 rfl) ?_
  refine lv_iconst (v := nI 0) C.hx C.hb dL_refuses_601 (by decide +kernel) ?_
  refine lv_iconst (v := nI 0) C.hx C.hb dL_refuses_602 (by decide +kernel) ?_
  refine q_cR (w := 19) (p0 := nI a) (p1 := nI a) (p2 := nI 0) (p3 := nI 0) (r := -7000001) (c2 := 110) (s2 := 660) C hs hP hD hS (ri_kin C.htr (notn (by omega))) hl rfl (Nat.le_of_ble_eq_true rfl) ⟨Nat.le_of_ble_eq_true rfl, Nat.le_of_ble_eq_true rfl⟩ ⟨Nat.le_of_ble_eq_true rfl, Nat.le_of_ble_eq_true rfl⟩ ⟨Nat.le_of_ble_eq_true rfl, Nat.le_of_ble_eq_true rfl⟩ dL_refuses_603 (fun g z H locs hs hP hD hS => ?_)
  refine lv_ldc (v := -7000001) C.hx C.hb C.hown (C.hT.use kk_L_90 args) dL_refuses_606 ?_
  refine lv_icmp_ne (tgt := 634) C.hx C.hb dL_refuses_608 (by decide) (fun c9 => absurd c9 (by decide +kernel)) (fun _ => ?_)
  refine lv_iload_n C.hx C.hb dL_refuses_611 rfl (lv_at hl 14 rfl) ?_
  refine lv_if_eq (tgt := 630) C.hx C.hb dL_refuses_612 (by decide) (fun c9 => ?_) (fun c9 => ?_)
  · refine W.widen (k := 111) (n := 666) (Nat.le_of_ble_eq_true rfl) (Nat.le_of_ble_eq_true rfl) ?_
    exact kk g z H locs ls hs hP hD hS hl
  · have ha0 : 0 < a := Nat.pos_of_ne_zero (fun q => c9 (by rw [q]; rfl))
    have hb0 : 0 < b := hab ha0
    refine lv_aload_n C.hx C.hb dL_refuses_615 rfl (lv_at hl 13 rfl) ?_
    refine lv_iload C.hx C.hb dL_refuses_616 (lv_at hl 3 rfl) ?_
    refine lv_iconst (v := nI 0) C.hx C.hb dL_refuses_618 (by decide +kernel) ?_
    refine lv_iconst (v := nI 0) C.hx C.hb dL_refuses_619 (by decide +kernel) ?_
    refine lv_iconst (v := nI 0) C.hx C.hb dL_refuses_620 (by decide +kernel) ?_
    refine lv_iconst (v := nI 0) C.hx C.hb dL_refuses_621 (by decide +kernel) ?_
    refine q_cR (w := 19) (p0 := nI 0) (p1 := nI 0) (p2 := nI 0) (p3 := nI 0) (r := -7000002) (c2 := 111) (s2 := 666) C hs hP hD hS (rs_kin C.htr (q_r_nI (by omega))) hl rfl (Nat.le_of_ble_eq_true rfl) ⟨Nat.le_of_ble_eq_true rfl, Nat.le_of_ble_eq_true rfl⟩ ⟨Nat.le_of_ble_eq_true rfl, Nat.le_of_ble_eq_true rfl⟩ ⟨Nat.le_of_ble_eq_true rfl, Nat.le_of_ble_eq_true rfl⟩ dL_refuses_622 (fun g z H locs hs hP hD hS => ?_)
    refine lv_ldc (v := -7000002) C.hx C.hb C.hown (C.hT.use kk_L_93 args) dL_refuses_625 ?_
    refine lv_icmp_ne (tgt := 634) C.hx C.hb dL_refuses_627 (by decide) (fun c9 => absurd c9 (by decide +kernel)) (fun _ => ?_)
    exact kk g z H locs ls hs hP hD hS hl

set_option maxRecDepth 100000 in
set_option maxHeartbeats 4000000 in
theorem tf_52 {p : Program} {l : Launch} {e : Env} {s : State} {m : MethodId} {args : Array Value} {below : List Frame} {meth : Method} {c : Code} {D : va_G} {cA : ClassId} {A : Nat → Prop} {ad : Nat → Nat} {Q : State → Prop} {g0 : Nat → Nat → Int32} {a t b : Nat} (ha : a ≤ 16) (hb9 : b ≤ 40) (hab : 0 < a → 0 < b) (C : lcx p l s m c cL_refuses 16 D cA A) (kk : ∀ (g : Nat → Nat → Int32) (z : Nat → Nat) (H : Heap) (locs : List Loc) (ls : Array Slot), SR g0 a t b g z → va_P D vwCl (rlW cA ad g z) H → va_D A (rlW cA ad g z) → va_S A s.heap H locs → lv_has ls 16 [(13, .int (nI 20)), (12, .int (nI 1)), (15, .int (nI 1)), (14, .int (nI 1)), (11, .int (nI 10)), (10, .int (nI 8)), (9, .int (nI b)), (8, .int (nI a)), (7, .int (-2147483648)), (6, .int (-2147483648)), (5, .int (nI 1)), (4, .int (nI (dfO g0 a a))), (3, .int (nI 2147483647)), (0, .ref (ad 70)), (1, .int (nI a)), (2, .int (nI b))] → W p l e rm_Lr s m args below meth c H locs 112 672 Q (F0 m 733 ls [])) : ∀ (g : Nat → Nat → Int32) (z : Nat → Nat) (H : Heap) (locs : List Loc) (ls : Array Slot), SR g0 a t b g z → va_P D vwCl (rlW cA ad g z) H → va_D A (rlW cA ad g z) → va_S A s.heap H locs → lv_has ls 16 [(12, .int (nI 1)), (15, .int (nI 1)), (14, .int (nI 1)), (13, .int (nI 19)), (11, .int (nI 10)), (10, .int (nI 8)), (9, .int (nI b)), (8, .int (nI a)), (7, .int (-2147483648)), (6, .int (-2147483648)), (5, .int (nI 1)), (4, .int (nI (dfO g0 a a))), (3, .int (nI 2147483647)), (0, .ref (ad 70)), (1, .int (nI a)), (2, .int (nI b))] → W p l e rm_Lr s m args below meth c H locs 111 666 Q (F0 m 630 ls []) := by
  intro g z H locs ls hs hP hD hS hl
  refine lv_iconst (v := nI 1) C.hx C.hb dL_refuses_630 (by decide +kernel) ?_
  refine lv_goto (tgt := 635) C.hx C.hb dL_refuses_631 (by decide) ?_
  refine lv_istore (lv' := [(12, .int (nI 1)), (15, .int (nI 1)), (14, .int (nI 1)), (13, .int (nI 19)), (11, .int (nI 10)), (10, .int (nI 8)), (9, .int (nI b)), (8, .int (nI a)), (7, .int (-2147483648)), (6, .int (-2147483648)), (5, .int (nI 1)), (4, .int (nI (dfO g0 a a))), (3, .int (nI 2147483647)), (0, .ref (ad 70)), (1, .int (nI a)), (2, .int (nI b))]) C.hx C.hb dL_refuses_635 hl (by decide) rfl (fun ls hl => ?_)
  refine lv_iload C.hx C.hb dL_refuses_637 (lv_at hl 3 rfl) ?_
  refine lv_bipush (v := nI 15) C.hx C.hb dL_refuses_639 (by decide +kernel) ?_
  refine lv_icmp_eq (tgt := 658) C.hx C.hb dL_refuses_641 (by decide) (fun c9 => absurd c9 (by decide +kernel)) (fun _ => ?_)
  refine lv_iload C.hx C.hb dL_refuses_644 (lv_at hl 3 rfl) ?_
  refine lv_bipush (v := nI 16) C.hx C.hb dL_refuses_646 (by decide +kernel) ?_
  refine lv_icmp_eq (tgt := 658) C.hx C.hb dL_refuses_648 (by decide) (fun c9 => absurd c9 (by decide +kernel)) (fun _ => ?_)
  refine lv_iload C.hx C.hb dL_refuses_651 (lv_at hl 3 rfl) ?_
  refine lv_bipush (v := nI 18) C.hx C.hb dL_refuses_653 (by decide +kernel) ?_
  refine lv_icmp_ne (tgt := 681) C.hx C.hb dL_refuses_655 (by decide) (fun _ => ?_) (fun c9 => absurd c9 (by decide +kernel))
  refine lv_iinc (v := nI 20) (lv' := [(13, .int (nI 20)), (12, .int (nI 1)), (15, .int (nI 1)), (14, .int (nI 1)), (11, .int (nI 10)), (10, .int (nI 8)), (9, .int (nI b)), (8, .int (nI a)), (7, .int (-2147483648)), (6, .int (-2147483648)), (5, .int (nI 1)), (4, .int (nI (dfO g0 a a))), (3, .int (nI 2147483647)), (0, .ref (ad 70)), (1, .int (nI a)), (2, .int (nI b))]) C.hx C.hb dL_refuses_681 hl (k := 3) rfl (by decide +kernel) (by decide) rfl (fun ls hl => ?_)
  refine lv_goto (tgt := 459) C.hx C.hb dL_refuses_684 (by decide) ?_
  refine lv_iload C.hx C.hb dL_refuses_459 (lv_at hl 0 rfl) ?_
  refine lv_bipush (v := nI 20) C.hx C.hb dL_refuses_461 (by decide +kernel) ?_
  refine lv_icmp_ge (tgt := 687) C.hx C.hb dL_refuses_463 (by decide) (fun _ => ?_) (fun c9 => absurd c9 (by decide +kernel))
  refine lv_iload C.hx C.hb dL_refuses_687 (lv_at hl 1 rfl) ?_
  refine lv_if_eq (tgt := 737) C.hx C.hb dL_refuses_689 (by decide) (fun c9 => absurd c9 (by decide +kernel)) (fun _ => ?_)
  refine lv_iload_n C.hx C.hb dL_refuses_692 rfl (lv_at hl 14 rfl) ?_
  refine lv_iconst (v := nI 2) C.hx C.hb dL_refuses_693 (by decide +kernel) ?_
  refine lv_icmp_lt (tgt := 733) C.hx C.hb dL_refuses_694 (by decide) (fun c9 => ?_) (fun c9 => ?_)
  · refine W.widen (k := 112) (n := 672) (Nat.le_of_ble_eq_true rfl) (Nat.le_of_ble_eq_true rfl) ?_
    exact kk g z H locs ls hs hP hD hS hl
  · have h2 : 2 ≤ a := by rw [Int32.lt_iff_toInt_lt, nI_toInt (by omega), nI_toInt (by omega)] at c9; omega
    refine lv_aload_n C.hx C.hb dL_refuses_697 rfl (lv_at hl 13 rfl) ?_
    refine lv_iconst (v := nI 3) C.hx C.hb dL_refuses_698 (by decide +kernel) ?_
    refine lv_iconst (v := nI 0) C.hx C.hb dL_refuses_699 (by decide +kernel) ?_
    refine lv_iconst (v := nI 1) C.hx C.hb dL_refuses_700 (by decide +kernel) ?_
    refine lv_iload C.hx C.hb dL_refuses_701 (lv_at hl 10 rfl) ?_
    refine lv_if_ne (tgt := 711) C.hx C.hb dL_refuses_703 (by decide) (fun _ => ?_) (fun c9 => absurd c9 (by decide +kernel))
    refine lv_iload C.hx C.hb dL_refuses_711 (lv_at hl 10 rfl) ?_
    refine lv_iconst (v := nI 1) C.hx C.hb dL_refuses_713 (by decide +kernel) ?_
    refine lv_icmp_ne (tgt := 722) C.hx C.hb dL_refuses_714 (by decide) (fun c9 => absurd c9 (by decide +kernel)) (fun _ => ?_)
    refine lv_bipush (v := nI 51) C.hx C.hb dL_refuses_717 (by decide +kernel) ?_
    refine lv_goto (tgt := 724) C.hx C.hb dL_refuses_719 (by decide) ?_
    refine lv_iconst (v := nI 0) C.hx C.hb dL_refuses_724 (by decide +kernel) ?_
    refine q_cR (w := 3) (p0 := nI 0) (p1 := nI 1) (p2 := nI 51) (p3 := nI 0) (r := -7000002) (c2 := 112) (s2 := 672) C hs hP hD hS (rg_ahead (i := 0) (j := 1) C.htr (by omega) (by omega) (by decide) (by decide +kernel)) hl rfl (Nat.le_of_ble_eq_true rfl) ⟨Nat.le_of_ble_eq_true rfl, Nat.le_of_ble_eq_true rfl⟩ ⟨Nat.le_of_ble_eq_true rfl, Nat.le_of_ble_eq_true rfl⟩ ⟨Nat.le_of_ble_eq_true rfl, Nat.le_of_ble_eq_true rfl⟩ dL_refuses_725 (fun g z H locs hs hP hD hS => ?_)
    refine lv_ldc (v := -7000002) C.hx C.hb C.hown (C.hT.use kk_L_93 args) dL_refuses_728 ?_
    refine lv_icmp_ne (tgt := 737) C.hx C.hb dL_refuses_730 (by decide) (fun c9 => absurd c9 (by decide +kernel)) (fun _ => ?_)
    exact kk g z H locs ls hs hP hD hS hl

set_option maxRecDepth 100000 in
set_option maxHeartbeats 4000000 in
theorem tf_53 {p : Program} {l : Launch} {e : Env} {s : State} {m : MethodId} {args : Array Value} {below : List Frame} {meth : Method} {c : Code} {D : va_G} {cA : ClassId} {A : Nat → Prop} {ad : Nat → Nat} {Q : State → Prop} {g0 : Nat → Nat → Int32} {a t b : Nat} (ha : a ≤ 16) (hb9 : b ≤ 40) (hab : 0 < a → 0 < b) (C : lcx p l s m c cL_refuses 16 D cA A) (kk : ∀ (g : Nat → Nat → Int32) (z : Nat → Nat) (H : Heap) (locs : List Loc) (ls : Array Slot), SR g0 a t b g z → va_P D vwCl (rlW cA ad g z) H → va_D A (rlW cA ad g z) → va_S A s.heap H locs → lv_has ls 16 [(12, .int (nI 1)), (13, .int (nI 20)), (15, .int (nI 1)), (14, .int (nI 1)), (11, .int (nI 10)), (10, .int (nI 8)), (9, .int (nI b)), (8, .int (nI a)), (7, .int (-2147483648)), (6, .int (-2147483648)), (5, .int (nI 1)), (4, .int (nI (dfO g0 a a))), (3, .int (nI 2147483647)), (0, .ref (ad 70)), (1, .int (nI a)), (2, .int (nI b))] → W p l e rm_Lr s m args below meth c H locs 118 708 Q (F0 m 931 ls [])) : ∀ (g : Nat → Nat → Int32) (z : Nat → Nat) (H : Heap) (locs : List Loc) (ls : Array Slot), SR g0 a t b g z → va_P D vwCl (rlW cA ad g z) H → va_D A (rlW cA ad g z) → va_S A s.heap H locs → lv_has ls 16 [(13, .int (nI 20)), (12, .int (nI 1)), (15, .int (nI 1)), (14, .int (nI 1)), (11, .int (nI 10)), (10, .int (nI 8)), (9, .int (nI b)), (8, .int (nI a)), (7, .int (-2147483648)), (6, .int (-2147483648)), (5, .int (nI 1)), (4, .int (nI (dfO g0 a a))), (3, .int (nI 2147483647)), (0, .ref (ad 70)), (1, .int (nI a)), (2, .int (nI b))] → W p l e rm_Lr s m args below meth c H locs 112 672 Q (F0 m 733 ls []) := by
  intro g z H locs ls hs hP hD hS hl
  refine lv_iconst (v := nI 1) C.hx C.hb dL_refuses_733 (by decide +kernel) ?_
  refine lv_goto (tgt := 738) C.hx C.hb dL_refuses_734 (by decide) ?_
  refine lv_istore (lv' := [(12, .int (nI 1)), (13, .int (nI 20)), (15, .int (nI 1)), (14, .int (nI 1)), (11, .int (nI 10)), (10, .int (nI 8)), (9, .int (nI b)), (8, .int (nI a)), (7, .int (-2147483648)), (6, .int (-2147483648)), (5, .int (nI 1)), (4, .int (nI (dfO g0 a a))), (3, .int (nI 2147483647)), (0, .ref (ad 70)), (1, .int (nI a)), (2, .int (nI b))]) C.hx C.hb dL_refuses_738 hl (by decide) rfl (fun ls hl => ?_)
  refine lv_iload C.hx C.hb dL_refuses_740 (lv_at hl 0 rfl) ?_
  refine lv_if_eq (tgt := 935) C.hx C.hb dL_refuses_742 (by decide) (fun c9 => absurd c9 (by decide +kernel)) (fun _ => ?_)
  refine lv_iload_n C.hx C.hb dL_refuses_745 rfl (lv_at hl 14 rfl) ?_
  refine lv_if_eq (tgt := 931) C.hx C.hb dL_refuses_746 (by decide) (fun c9 => ?_) (fun c9 => ?_)
  · refine W.widen (k := 118) (n := 708) (Nat.le_of_ble_eq_true rfl) (Nat.le_of_ble_eq_true rfl) ?_
    exact kk g z H locs ls hs hP hD hS hl
  · have ha0 : 0 < a := Nat.pos_of_ne_zero (fun q => c9 (by rw [q]; rfl))
    have hb0 : 0 < b := hab ha0
    refine lv_aload_n C.hx C.hb dL_refuses_749 rfl (lv_at hl 13 rfl) ?_
    refine lv_iconst (v := nI 4) C.hx C.hb dL_refuses_750 (by decide +kernel) ?_
    refine lv_iconst (v := nI 0) C.hx C.hb dL_refuses_751 (by decide +kernel) ?_
    refine lv_iload C.hx C.hb dL_refuses_752 (lv_at hl 10 rfl) ?_
    refine lv_iconst (v := nI 1) C.hx C.hb dL_refuses_754 (by decide +kernel) ?_
    refine lv_icmp_ne (tgt := 764) C.hx C.hb dL_refuses_755 (by decide) (fun c9 => absurd c9 (by decide +kernel)) (fun _ => ?_)
    refine lv_sipush (v := nI 1000) C.hx C.hb dL_refuses_758 (by decide +kernel) ?_
    refine lv_goto (tgt := 766) C.hx C.hb dL_refuses_761 (by decide) ?_
    refine lv_sipush (v := nI 999) C.hx C.hb dL_refuses_766 (by decide +kernel) ?_
    refine lv_iconst (v := nI 0) C.hx C.hb dL_refuses_769 (by decide +kernel) ?_
    refine q_cR (w := 4) (p0 := nI 0) (p1 := nI 1000) (p2 := nI 999) (p3 := nI 0) (r := -7000002) (c2 := 113) (s2 := 678) C hs hP hD hS (rl_find C.htr (q_r_nI (by omega)) (by decide +kernel)) hl rfl (Nat.le_of_ble_eq_true rfl) ⟨Nat.le_of_ble_eq_true rfl, Nat.le_of_ble_eq_true rfl⟩ ⟨Nat.le_of_ble_eq_true rfl, Nat.le_of_ble_eq_true rfl⟩ ⟨Nat.le_of_ble_eq_true rfl, Nat.le_of_ble_eq_true rfl⟩ dL_refuses_770 (fun g z H locs hs hP hD hS => ?_)
    refine lv_ldc (v := -7000002) C.hx C.hb C.hown (C.hT.use kk_L_93 args) dL_refuses_773 ?_
    refine lv_icmp_ne (tgt := 935) C.hx C.hb dL_refuses_775 (by decide) (fun c9 => absurd c9 (by decide +kernel)) (fun _ => ?_)
    refine lv_aload_n C.hx C.hb dL_refuses_778 rfl (lv_at hl 13 rfl) ?_
    refine lv_iconst (v := nI 4) C.hx C.hb dL_refuses_779 (by decide +kernel) ?_
    refine lv_iconst (v := nI 0) C.hx C.hb dL_refuses_780 (by decide +kernel) ?_
    refine lv_iconst (v := nI 5) C.hx C.hb dL_refuses_781 (by decide +kernel) ?_
    refine lv_iload C.hx C.hb dL_refuses_782 (lv_at hl 10 rfl) ?_
    refine lv_if_ne (tgt := 791) C.hx C.hb dL_refuses_784 (by decide) (fun _ => ?_) (fun c9 => absurd c9 (by decide +kernel))
    refine lv_iload C.hx C.hb dL_refuses_791 (lv_at hl 10 rfl) ?_
    refine lv_iconst (v := nI 1) C.hx C.hb dL_refuses_793 (by decide +kernel) ?_
    refine lv_icmp_ne (tgt := 803) C.hx C.hb dL_refuses_794 (by decide) (fun c9 => absurd c9 (by decide +kernel)) (fun _ => ?_)
    refine lv_sipush (v := nI 1000) C.hx C.hb dL_refuses_797 (by decide +kernel) ?_
    refine lv_goto (tgt := 805) C.hx C.hb dL_refuses_800 (by decide) ?_
    refine lv_iconst (v := nI 0) C.hx C.hb dL_refuses_805 (by decide +kernel) ?_
    refine q_cR (w := 4) (p0 := nI 0) (p1 := nI 5) (p2 := nI 1000) (p3 := nI 0) (r := -7000002) (c2 := 114) (s2 := 684) C hs hP hD hS (rh_find C.htr (q_r_nI (by omega)) (by decide +kernel) (by decide +kernel)) hl rfl (Nat.le_of_ble_eq_true rfl) ⟨Nat.le_of_ble_eq_true rfl, Nat.le_of_ble_eq_true rfl⟩ ⟨Nat.le_of_ble_eq_true rfl, Nat.le_of_ble_eq_true rfl⟩ ⟨Nat.le_of_ble_eq_true rfl, Nat.le_of_ble_eq_true rfl⟩ dL_refuses_806 (fun g z H locs hs hP hD hS => ?_)
    refine lv_ldc (v := -7000002) C.hx C.hb C.hown (C.hT.use kk_L_93 args) dL_refuses_809 ?_
    refine lv_icmp_ne (tgt := 935) C.hx C.hb dL_refuses_811 (by decide) (fun c9 => absurd c9 (by decide +kernel)) (fun _ => ?_)
    refine lv_aload_n C.hx C.hb dL_refuses_814 rfl (lv_at hl 13 rfl) ?_
    refine lv_iconst (v := nI 5) C.hx C.hb dL_refuses_815 (by decide +kernel) ?_
    refine lv_iconst (v := nI 0) C.hx C.hb dL_refuses_816 (by decide +kernel) ?_
    refine lv_iload C.hx C.hb dL_refuses_817 (lv_at hl 10 rfl) ?_
    refine lv_iconst (v := nI 1) C.hx C.hb dL_refuses_819 (by decide +kernel) ?_
    refine lv_icmp_ne (tgt := 829) C.hx C.hb dL_refuses_820 (by decide) (fun c9 => absurd c9 (by decide +kernel)) (fun _ => ?_)
    refine lv_sipush (v := nI 1000) C.hx C.hb dL_refuses_823 (by decide +kernel) ?_
    refine lv_goto (tgt := 831) C.hx C.hb dL_refuses_826 (by decide) ?_
    refine lv_sipush (v := nI 999) C.hx C.hb dL_refuses_831 (by decide +kernel) ?_
    refine lv_iconst (v := nI 0) C.hx C.hb dL_refuses_834 (by decide +kernel) ?_
    refine q_cR (w := 5) (p0 := nI 0) (p1 := nI 1000) (p2 := nI 999) (p3 := nI 0) (r := -7000002) (c2 := 115) (s2 := 690) C hs hP hD hS (rl_wouldMove C.htr (q_r_nI (by omega)) (by decide +kernel)) hl rfl (Nat.le_of_ble_eq_true rfl) ⟨Nat.le_of_ble_eq_true rfl, Nat.le_of_ble_eq_true rfl⟩ ⟨Nat.le_of_ble_eq_true rfl, Nat.le_of_ble_eq_true rfl⟩ ⟨Nat.le_of_ble_eq_true rfl, Nat.le_of_ble_eq_true rfl⟩ dL_refuses_835 (fun g z H locs hs hP hD hS => ?_)
    refine lv_ldc (v := -7000002) C.hx C.hb C.hown (C.hT.use kk_L_93 args) dL_refuses_838 ?_
    refine lv_icmp_ne (tgt := 935) C.hx C.hb dL_refuses_840 (by decide) (fun c9 => absurd c9 (by decide +kernel)) (fun _ => ?_)
    refine lv_aload_n C.hx C.hb dL_refuses_843 rfl (lv_at hl 13 rfl) ?_
    refine lv_iconst (v := nI 5) C.hx C.hb dL_refuses_844 (by decide +kernel) ?_
    refine lv_iconst (v := nI 0) C.hx C.hb dL_refuses_845 (by decide +kernel) ?_
    refine lv_iconst (v := nI 5) C.hx C.hb dL_refuses_846 (by decide +kernel) ?_
    refine lv_iload C.hx C.hb dL_refuses_847 (lv_at hl 10 rfl) ?_
    refine lv_if_ne (tgt := 856) C.hx C.hb dL_refuses_849 (by decide) (fun _ => ?_) (fun c9 => absurd c9 (by decide +kernel))
    refine lv_iload C.hx C.hb dL_refuses_856 (lv_at hl 10 rfl) ?_
    refine lv_iconst (v := nI 1) C.hx C.hb dL_refuses_858 (by decide +kernel) ?_
    refine lv_icmp_ne (tgt := 868) C.hx C.hb dL_refuses_859 (by decide) (fun c9 => absurd c9 (by decide +kernel)) (fun _ => ?_)
    refine lv_sipush (v := nI 1000) C.hx C.hb dL_refuses_862 (by decide +kernel) ?_
    refine lv_goto (tgt := 870) C.hx C.hb dL_refuses_865 (by decide) ?_
    refine lv_iconst (v := nI 0) C.hx C.hb dL_refuses_870 (by decide +kernel) ?_
    refine q_cR (w := 5) (p0 := nI 0) (p1 := nI 5) (p2 := nI 1000) (p3 := nI 0) (r := -7000002) (c2 := 116) (s2 := 696) C hs hP hD hS (rh_wouldMove C.htr (q_r_nI (by omega)) (by decide +kernel) (by decide +kernel)) hl rfl (Nat.le_of_ble_eq_true rfl) ⟨Nat.le_of_ble_eq_true rfl, Nat.le_of_ble_eq_true rfl⟩ ⟨Nat.le_of_ble_eq_true rfl, Nat.le_of_ble_eq_true rfl⟩ ⟨Nat.le_of_ble_eq_true rfl, Nat.le_of_ble_eq_true rfl⟩ dL_refuses_871 (fun g z H locs hs hP hD hS => ?_)
    refine lv_ldc (v := -7000002) C.hx C.hb C.hown (C.hT.use kk_L_93 args) dL_refuses_874 ?_
    refine lv_icmp_ne (tgt := 935) C.hx C.hb dL_refuses_876 (by decide) (fun c9 => absurd c9 (by decide +kernel)) (fun _ => ?_)
    refine lv_aload_n C.hx C.hb dL_refuses_879 rfl (lv_at hl 13 rfl) ?_
    refine lv_bipush (v := nI 17) C.hx C.hb dL_refuses_880 (by decide +kernel) ?_
    refine lv_iconst (v := nI 0) C.hx C.hb dL_refuses_882 (by decide +kernel) ?_
    refine lv_iload C.hx C.hb dL_refuses_883 (lv_at hl 9 rfl) ?_
    refine lv_iconst (v := nI 0) C.hx C.hb dL_refuses_885 (by decide +kernel) ?_
    refine lv_iconst (v := nI 0) C.hx C.hb dL_refuses_886 (by decide +kernel) ?_
    refine q_cR (w := 17) (p0 := nI 0) (p1 := -2147483648) (p2 := nI 0) (p3 := nI 0) (r := -7000001) (c2 := 117) (s2 := 702) C hs hP hD hS (rc_neg (k := 0) C.htr hb0 (by decide +kernel)) hl rfl (Nat.le_of_ble_eq_true rfl) ⟨Nat.le_of_ble_eq_true rfl, Nat.le_of_ble_eq_true rfl⟩ ⟨Nat.le_of_ble_eq_true rfl, Nat.le_of_ble_eq_true rfl⟩ ⟨Nat.le_of_ble_eq_true rfl, Nat.le_of_ble_eq_true rfl⟩ dL_refuses_887 (fun g z H locs hs hP hD hS => ?_)
    refine lv_iload C.hx C.hb dL_refuses_890 (lv_at hl 9 rfl) ?_
    refine lv_if_le (tgt := 899) C.hx C.hb dL_refuses_892 (by decide) (fun _ => ?_) (fun c9 => absurd c9 (by decide +kernel))
    refine lv_ldc (v := -7000001) C.hx C.hb C.hown (C.hT.use kk_L_90 args) dL_refuses_899 ?_
    refine lv_icmp_ne (tgt := 935) C.hx C.hb dL_refuses_901 (by decide) (fun c9 => absurd c9 (by decide +kernel)) (fun _ => ?_)
    refine lv_aload_n C.hx C.hb dL_refuses_904 rfl (lv_at hl 13 rfl) ?_
    refine lv_bipush (v := nI 23) C.hx C.hb dL_refuses_905 (by decide +kernel) ?_
    refine lv_iconst (v := nI 0) C.hx C.hb dL_refuses_907 (by decide +kernel) ?_
    refine lv_iload C.hx C.hb dL_refuses_908 (lv_at hl 10 rfl) ?_
    refine lv_iconst (v := nI 1) C.hx C.hb dL_refuses_910 (by decide +kernel) ?_
    refine lv_icmp_ne (tgt := 919) C.hx C.hb dL_refuses_911 (by decide) (fun c9 => absurd c9 (by decide +kernel)) (fun _ => ?_)
    refine lv_bipush (v := nI 16) C.hx C.hb dL_refuses_914 (by decide +kernel) ?_
    refine lv_goto (tgt := 921) C.hx C.hb dL_refuses_916 (by decide) ?_
    refine lv_iconst (v := nI 0) C.hx C.hb dL_refuses_921 (by decide +kernel) ?_
    refine lv_iconst (v := nI 0) C.hx C.hb dL_refuses_922 (by decide +kernel) ?_
    refine q_cR (w := 23) (p0 := nI 0) (p1 := nI 16) (p2 := nI 0) (p3 := nI 0) (r := -7000002) (c2 := 118) (s2 := 708) C hs hP hD hS (rv_lb C.htr (q_r_nI (by omega)) (by decide +kernel)) hl rfl (Nat.le_of_ble_eq_true rfl) ⟨Nat.le_of_ble_eq_true rfl, Nat.le_of_ble_eq_true rfl⟩ ⟨Nat.le_of_ble_eq_true rfl, Nat.le_of_ble_eq_true rfl⟩ ⟨Nat.le_of_ble_eq_true rfl, Nat.le_of_ble_eq_true rfl⟩ dL_refuses_923 (fun g z H locs hs hP hD hS => ?_)
    refine lv_ldc (v := -7000002) C.hx C.hb C.hown (C.hT.use kk_L_93 args) dL_refuses_926 ?_
    refine lv_icmp_ne (tgt := 935) C.hx C.hb dL_refuses_928 (by decide) (fun c9 => absurd c9 (by decide +kernel)) (fun _ => ?_)
    exact kk g z H locs ls hs hP hD hS hl

set_option maxRecDepth 100000 in
set_option maxHeartbeats 4000000 in
theorem tf_54 {p : Program} {l : Launch} {e : Env} {s : State} {m : MethodId} {args : Array Value} {below : List Frame} {meth : Method} {c : Code} {D : va_G} {cA : ClassId} {A : Nat → Prop} {ad : Nat → Nat} {Q : State → Prop} {g0 : Nat → Nat → Int32} {a t b : Nat} (ha : a ≤ 16) (hb9 : b ≤ 40) (hab : 0 < a → 0 < b) (C : lcx p l s m c cL_refuses 16 D cA A) (kk : ∀ (g : Nat → Nat → Int32) (z : Nat → Nat) (H : Heap) (locs : List Loc) (ls : Array Slot), SR g0 a t b g z → va_P D vwCl (rlW cA ad g z) H → va_D A (rlW cA ad g z) → va_S A s.heap H locs → lv_has ls 16 [(11, .int (nI 2147483647)), (10, .int (nI 2147483647)), (9, .int (nI 2147483647)), (8, .int (nI 2147483647)), (7, .int (nI 2147483647)), (6, .int (nI 2147483647)), (5, .int (nI 2)), (12, .int (nI 1)), (13, .int (nI 20)), (15, .int (nI 1)), (14, .int (nI 1)), (4, .int (nI (dfO g0 a a))), (3, .int (nI 2147483647)), (0, .ref (ad 70)), (1, .int (nI a)), (2, .int (nI b))] → W p l e rm_Lr s m args below meth c H locs 120 720 Q (F0 m 169 ls [])) : ∀ (g : Nat → Nat → Int32) (z : Nat → Nat) (H : Heap) (locs : List Loc) (ls : Array Slot), SR g0 a t b g z → va_P D vwCl (rlW cA ad g z) H → va_D A (rlW cA ad g z) → va_S A s.heap H locs → lv_has ls 16 [(12, .int (nI 1)), (13, .int (nI 20)), (15, .int (nI 1)), (14, .int (nI 1)), (11, .int (nI 10)), (10, .int (nI 8)), (9, .int (nI b)), (8, .int (nI a)), (7, .int (-2147483648)), (6, .int (-2147483648)), (5, .int (nI 1)), (4, .int (nI (dfO g0 a a))), (3, .int (nI 2147483647)), (0, .ref (ad 70)), (1, .int (nI a)), (2, .int (nI b))] → W p l e rm_Lr s m args below meth c H locs 118 708 Q (F0 m 931 ls []) := by
  intro g z H locs ls hs hP hD hS hl
  refine lv_iconst (v := nI 1) C.hx C.hb dL_refuses_931 (by decide +kernel) ?_
  refine lv_goto (tgt := 936) C.hx C.hb dL_refuses_932 (by decide) ?_
  refine lv_istore (lv' := [(12, .int (nI 1)), (13, .int (nI 20)), (15, .int (nI 1)), (14, .int (nI 1)), (11, .int (nI 10)), (10, .int (nI 8)), (9, .int (nI b)), (8, .int (nI a)), (7, .int (-2147483648)), (6, .int (-2147483648)), (5, .int (nI 1)), (4, .int (nI (dfO g0 a a))), (3, .int (nI 2147483647)), (0, .ref (ad 70)), (1, .int (nI a)), (2, .int (nI b))]) C.hx C.hb dL_refuses_936 hl (by decide) rfl (fun ls hl => ?_)
  refine lv_iload C.hx C.hb dL_refuses_938 (lv_at hl 0 rfl) ?_
  refine lv_if_ne (tgt := 945) C.hx C.hb dL_refuses_940 (by decide) (fun _ => ?_) (fun c9 => absurd c9 (by decide +kernel))
  refine lv_iinc (v := nI 2) (lv' := [(5, .int (nI 2)), (12, .int (nI 1)), (13, .int (nI 20)), (15, .int (nI 1)), (14, .int (nI 1)), (11, .int (nI 10)), (10, .int (nI 8)), (9, .int (nI b)), (8, .int (nI a)), (7, .int (-2147483648)), (6, .int (-2147483648)), (4, .int (nI (dfO g0 a a))), (3, .int (nI 2147483647)), (0, .ref (ad 70)), (1, .int (nI a)), (2, .int (nI b))]) C.hx C.hb dL_refuses_945 hl (k := 10) rfl (by decide +kernel) (by decide) rfl (fun ls hl => ?_)
  refine lv_goto (tgt := 12) C.hx C.hb dL_refuses_948 (by decide) ?_
  refine lv_iload C.hx C.hb dL_refuses_12 (lv_at hl 0 rfl) ?_
  refine lv_iconst (v := nI 4) C.hx C.hb dL_refuses_14 (by decide +kernel) ?_
  refine lv_icmp_ge (tgt := 951) C.hx C.hb dL_refuses_15 (by decide) (fun c9 => absurd c9 (by decide +kernel)) (fun _ => ?_)
  refine lv_iload C.hx C.hb dL_refuses_18 (lv_at hl 0 rfl) ?_
  refine lv_if_ne (tgt := 27) C.hx C.hb dL_refuses_20 (by decide) (fun _ => ?_) (fun c9 => absurd c9 (by decide +kernel))
  refine lv_iload C.hx C.hb dL_refuses_27 (lv_at hl 0 rfl) ?_
  refine lv_iconst (v := nI 2) C.hx C.hb dL_refuses_29 (by decide +kernel) ?_
  refine lv_icmp_ne (tgt := 37) C.hx C.hb dL_refuses_30 (by decide) (fun c9 => absurd c9 (by decide +kernel)) (fun _ => ?_)
  refine lv_iload_n C.hx C.hb dL_refuses_33 rfl (lv_at hl 12 rfl) ?_
  refine lv_goto (tgt := 41) C.hx C.hb dL_refuses_34 (by decide) ?_
  refine lv_istore (lv' := [(6, .int (nI 2147483647)), (5, .int (nI 2)), (12, .int (nI 1)), (13, .int (nI 20)), (15, .int (nI 1)), (14, .int (nI 1)), (11, .int (nI 10)), (10, .int (nI 8)), (9, .int (nI b)), (8, .int (nI a)), (7, .int (-2147483648)), (4, .int (nI (dfO g0 a a))), (3, .int (nI 2147483647)), (0, .ref (ad 70)), (1, .int (nI a)), (2, .int (nI b))]) C.hx C.hb dL_refuses_41 hl (by decide) rfl (fun ls hl => ?_)
  refine lv_iload C.hx C.hb dL_refuses_43 (lv_at hl 1 rfl) ?_
  refine lv_if_ne (tgt := 53) C.hx C.hb dL_refuses_45 (by decide) (fun _ => ?_) (fun c9 => absurd c9 (by decide +kernel))
  refine lv_iload C.hx C.hb dL_refuses_53 (lv_at hl 1 rfl) ?_
  refine lv_iconst (v := nI 2) C.hx C.hb dL_refuses_55 (by decide +kernel) ?_
  refine lv_icmp_ne (tgt := 63) C.hx C.hb dL_refuses_56 (by decide) (fun c9 => absurd c9 (by decide +kernel)) (fun _ => ?_)
  refine lv_iload_n C.hx C.hb dL_refuses_59 rfl (lv_at hl 12 rfl) ?_
  refine lv_goto (tgt := 67) C.hx C.hb dL_refuses_60 (by decide) ?_
  refine lv_istore (lv' := [(7, .int (nI 2147483647)), (6, .int (nI 2147483647)), (5, .int (nI 2)), (12, .int (nI 1)), (13, .int (nI 20)), (15, .int (nI 1)), (14, .int (nI 1)), (11, .int (nI 10)), (10, .int (nI 8)), (9, .int (nI b)), (8, .int (nI a)), (4, .int (nI (dfO g0 a a))), (3, .int (nI 2147483647)), (0, .ref (ad 70)), (1, .int (nI a)), (2, .int (nI b))]) C.hx C.hb dL_refuses_67 hl (by decide) rfl (fun ls hl => ?_)
  refine lv_iload C.hx C.hb dL_refuses_69 (lv_at hl 2 rfl) ?_
  refine lv_iconst (v := nI 1) C.hx C.hb dL_refuses_71 (by decide +kernel) ?_
  refine lv_icmp_ne (tgt := 79) C.hx C.hb dL_refuses_72 (by decide) (fun _ => ?_) (fun c9 => absurd c9 (by decide +kernel))
  refine lv_iload C.hx C.hb dL_refuses_79 (lv_at hl 1 rfl) ?_
  refine lv_istore (lv' := [(8, .int (nI 2147483647)), (7, .int (nI 2147483647)), (6, .int (nI 2147483647)), (5, .int (nI 2)), (12, .int (nI 1)), (13, .int (nI 20)), (15, .int (nI 1)), (14, .int (nI 1)), (11, .int (nI 10)), (10, .int (nI 8)), (9, .int (nI b)), (4, .int (nI (dfO g0 a a))), (3, .int (nI 2147483647)), (0, .ref (ad 70)), (1, .int (nI a)), (2, .int (nI b))]) C.hx C.hb dL_refuses_81 hl (by decide) rfl (fun ls hl => ?_)
  refine lv_iload C.hx C.hb dL_refuses_83 (lv_at hl 3 rfl) ?_
  refine lv_iconst (v := nI 1) C.hx C.hb dL_refuses_85 (by decide +kernel) ?_
  refine lv_icmp_ne (tgt := 93) C.hx C.hb dL_refuses_86 (by decide) (fun _ => ?_) (fun c9 => absurd c9 (by decide +kernel))
  refine lv_iload C.hx C.hb dL_refuses_93 (lv_at hl 2 rfl) ?_
  refine lv_istore (lv' := [(9, .int (nI 2147483647)), (8, .int (nI 2147483647)), (7, .int (nI 2147483647)), (6, .int (nI 2147483647)), (5, .int (nI 2)), (12, .int (nI 1)), (13, .int (nI 20)), (15, .int (nI 1)), (14, .int (nI 1)), (11, .int (nI 10)), (10, .int (nI 8)), (4, .int (nI (dfO g0 a a))), (3, .int (nI 2147483647)), (0, .ref (ad 70)), (1, .int (nI a)), (2, .int (nI b))]) C.hx C.hb dL_refuses_95 hl (by decide) rfl (fun ls hl => ?_)
  refine lv_iload C.hx C.hb dL_refuses_97 (lv_at hl 4 rfl) ?_
  refine lv_iconst (v := nI 1) C.hx C.hb dL_refuses_99 (by decide +kernel) ?_
  refine lv_icmp_ne (tgt := 108) C.hx C.hb dL_refuses_100 (by decide) (fun _ => ?_) (fun c9 => absurd c9 (by decide +kernel))
  refine lv_iload C.hx C.hb dL_refuses_108 (lv_at hl 3 rfl) ?_
  refine lv_istore (lv' := [(10, .int (nI 2147483647)), (9, .int (nI 2147483647)), (8, .int (nI 2147483647)), (7, .int (nI 2147483647)), (6, .int (nI 2147483647)), (5, .int (nI 2)), (12, .int (nI 1)), (13, .int (nI 20)), (15, .int (nI 1)), (14, .int (nI 1)), (11, .int (nI 10)), (4, .int (nI (dfO g0 a a))), (3, .int (nI 2147483647)), (0, .ref (ad 70)), (1, .int (nI a)), (2, .int (nI b))]) C.hx C.hb dL_refuses_110 hl (by decide) rfl (fun ls hl => ?_)
  refine lv_iload C.hx C.hb dL_refuses_112 (lv_at hl 5 rfl) ?_
  refine lv_iconst (v := nI 1) C.hx C.hb dL_refuses_114 (by decide +kernel) ?_
  refine lv_icmp_ne (tgt := 123) C.hx C.hb dL_refuses_115 (by decide) (fun _ => ?_) (fun c9 => absurd c9 (by decide +kernel))
  refine lv_iload C.hx C.hb dL_refuses_123 (lv_at hl 4 rfl) ?_
  refine lv_istore (lv' := [(11, .int (nI 2147483647)), (10, .int (nI 2147483647)), (9, .int (nI 2147483647)), (8, .int (nI 2147483647)), (7, .int (nI 2147483647)), (6, .int (nI 2147483647)), (5, .int (nI 2)), (12, .int (nI 1)), (13, .int (nI 20)), (15, .int (nI 1)), (14, .int (nI 1)), (4, .int (nI (dfO g0 a a))), (3, .int (nI 2147483647)), (0, .ref (ad 70)), (1, .int (nI a)), (2, .int (nI b))]) C.hx C.hb dL_refuses_125 hl (by decide) rfl (fun ls hl => ?_)
  refine lv_aload_n C.hx C.hb dL_refuses_127 rfl (lv_at hl 13 rfl) ?_
  refine lv_iconst (v := nI 0) C.hx C.hb dL_refuses_128 (by decide +kernel) ?_
  refine lv_bipush (v := nI 99) C.hx C.hb dL_refuses_129 (by decide +kernel) ?_
  refine lv_iconst (v := nI 0) C.hx C.hb dL_refuses_131 (by decide +kernel) ?_
  refine lv_iconst (v := nI 0) C.hx C.hb dL_refuses_132 (by decide +kernel) ?_
  refine lv_iload C.hx C.hb dL_refuses_133 (lv_at hl 6 rfl) ?_
  refine lv_iconst (v := nI 1) C.hx C.hb dL_refuses_135 (by decide +kernel) ?_
  refine lv_icmp_ne (tgt := 144) C.hx C.hb dL_refuses_136 (by decide) (fun _ => ?_) (fun c9 => absurd c9 (by decide +kernel))
  refine lv_iload C.hx C.hb dL_refuses_144 (lv_at hl 4 rfl) ?_
  refine q_cR (w := 0) (p0 := nI 99) (p1 := nI 0) (p2 := nI 0) (p3 := nI 2147483647) (r := -7000001) (c2 := 119) (s2 := 714) C hs hP hD hS (rm_po C.htr (by decide +kernel) (notr (by decide +kernel) (by decide))) hl rfl (Nat.le_of_ble_eq_true rfl) ⟨Nat.le_of_ble_eq_true rfl, Nat.le_of_ble_eq_true rfl⟩ ⟨Nat.le_of_ble_eq_true rfl, Nat.le_of_ble_eq_true rfl⟩ ⟨Nat.le_of_ble_eq_true rfl, Nat.le_of_ble_eq_true rfl⟩ dL_refuses_146 (fun g z H locs hs hP hD hS => ?_)
  refine lv_ldc (v := -7000001) C.hx C.hb C.hown (C.hT.use kk_L_90 args) dL_refuses_149 ?_
  refine lv_icmp_ne (tgt := 453) C.hx C.hb dL_refuses_151 (by decide) (fun c9 => absurd c9 (by decide +kernel)) (fun _ => ?_)
  refine lv_aload_n C.hx C.hb dL_refuses_154 rfl (lv_at hl 13 rfl) ?_
  refine lv_iconst (v := nI 0) C.hx C.hb dL_refuses_155 (by decide +kernel) ?_
  refine lv_iload C.hx C.hb dL_refuses_156 (lv_at hl 0 rfl) ?_
  refine lv_iconst (v := nI 0) C.hx C.hb dL_refuses_158 (by decide +kernel) ?_
  refine lv_iconst (v := nI 0) C.hx C.hb dL_refuses_159 (by decide +kernel) ?_
  refine lv_iconst (v := nI 0) C.hx C.hb dL_refuses_160 (by decide +kernel) ?_
  refine q_cR (w := 0) (p0 := nI 2147483647) (p1 := nI 0) (p2 := nI 0) (p3 := nI 0) (r := -7000002) (c2 := 120) (s2 := 720) C hs hP hD hS (rm_nm C.htr (Or.inr (q_r_nI (by decide))) (by decide +kernel)) hl rfl (Nat.le_of_ble_eq_true rfl) ⟨Nat.le_of_ble_eq_true rfl, Nat.le_of_ble_eq_true rfl⟩ ⟨Nat.le_of_ble_eq_true rfl, Nat.le_of_ble_eq_true rfl⟩ ⟨Nat.le_of_ble_eq_true rfl, Nat.le_of_ble_eq_true rfl⟩ dL_refuses_161 (fun g z H locs hs hP hD hS => ?_)
  refine lv_ldc (v := -7000002) C.hx C.hb C.hown (C.hT.use kk_L_93 args) dL_refuses_164 ?_
  refine lv_icmp_ne (tgt := 453) C.hx C.hb dL_refuses_166 (by decide) (fun c9 => absurd c9 (by decide +kernel)) (fun _ => ?_)
  exact kk g z H locs ls hs hP hD hS hl

set_option maxRecDepth 100000 in
set_option maxHeartbeats 4000000 in
theorem tf_55 {p : Program} {l : Launch} {e : Env} {s : State} {m : MethodId} {args : Array Value} {below : List Frame} {meth : Method} {c : Code} {D : va_G} {cA : ClassId} {A : Nat → Prop} {ad : Nat → Nat} {Q : State → Prop} {g0 : Nat → Nat → Int32} {a t b : Nat} (ha : a ≤ 16) (hb9 : b ≤ 40) (hab : 0 < a → 0 < b) (C : lcx p l s m c cL_refuses 16 D cA A) (kk : ∀ (g : Nat → Nat → Int32) (z : Nat → Nat) (H : Heap) (locs : List Loc) (ls : Array Slot), SR g0 a t b g z → va_P D vwCl (rlW cA ad g z) H → va_D A (rlW cA ad g z) → va_S A s.heap H locs → lv_has ls 16 [(11, .int (nI 2147483647)), (10, .int (nI 2147483647)), (9, .int (nI 2147483647)), (8, .int (nI 2147483647)), (7, .int (nI 2147483647)), (6, .int (nI 2147483647)), (5, .int (nI 2)), (12, .int (nI 1)), (13, .int (nI 20)), (15, .int (nI 1)), (14, .int (nI 1)), (4, .int (nI (dfO g0 a a))), (3, .int (nI 2147483647)), (0, .ref (ad 70)), (1, .int (nI a)), (2, .int (nI b))] → W p l e rm_Lr s m args below meth c H locs 127 762 Q (F0 m 298 ls [])) : ∀ (g : Nat → Nat → Int32) (z : Nat → Nat) (H : Heap) (locs : List Loc) (ls : Array Slot), SR g0 a t b g z → va_P D vwCl (rlW cA ad g z) H → va_D A (rlW cA ad g z) → va_S A s.heap H locs → lv_has ls 16 [(11, .int (nI 2147483647)), (10, .int (nI 2147483647)), (9, .int (nI 2147483647)), (8, .int (nI 2147483647)), (7, .int (nI 2147483647)), (6, .int (nI 2147483647)), (5, .int (nI 2)), (12, .int (nI 1)), (13, .int (nI 20)), (15, .int (nI 1)), (14, .int (nI 1)), (4, .int (nI (dfO g0 a a))), (3, .int (nI 2147483647)), (0, .ref (ad 70)), (1, .int (nI a)), (2, .int (nI b))] → W p l e rm_Lr s m args below meth c H locs 120 720 Q (F0 m 169 ls []) := by
  intro g z H locs ls hs hP hD hS hl
  refine lv_aload_n C.hx C.hb dL_refuses_169 rfl (lv_at hl 13 rfl) ?_
  refine lv_iconst (v := nI 0) C.hx C.hb dL_refuses_170 (by decide +kernel) ?_
  refine lv_iconst (v := nI 0) C.hx C.hb dL_refuses_171 (by decide +kernel) ?_
  refine lv_iload C.hx C.hb dL_refuses_172 (lv_at hl 6 rfl) ?_
  refine lv_iconst (v := nI 1) C.hx C.hb dL_refuses_174 (by decide +kernel) ?_
  refine lv_icmp_ne (tgt := 183) C.hx C.hb dL_refuses_175 (by decide) (fun _ => ?_) (fun c9 => absurd c9 (by decide +kernel))
  refine lv_iload C.hx C.hb dL_refuses_183 (lv_at hl 4 rfl) ?_
  refine lv_iconst (v := nI 0) C.hx C.hb dL_refuses_185 (by decide +kernel) ?_
  refine lv_iconst (v := -1) C.hx C.hb dL_refuses_186 (by decide +kernel) ?_
  refine q_cR (w := 0) (p0 := nI 0) (p1 := nI 2147483647) (p2 := nI 0) (p3 := -1) (r := -7000002) (c2 := 121) (s2 := 726) C hs hP hD hS (rm_fm C.htr (Or.inl rfl) (by decide +kernel) (by decide +kernel)) hl rfl (Nat.le_of_ble_eq_true rfl) ⟨Nat.le_of_ble_eq_true rfl, Nat.le_of_ble_eq_true rfl⟩ ⟨Nat.le_of_ble_eq_true rfl, Nat.le_of_ble_eq_true rfl⟩ ⟨Nat.le_of_ble_eq_true rfl, Nat.le_of_ble_eq_true rfl⟩ dL_refuses_187 (fun g z H locs hs hP hD hS => ?_)
  refine lv_ldc (v := -7000002) C.hx C.hb C.hown (C.hT.use kk_L_93 args) dL_refuses_190 ?_
  refine lv_icmp_ne (tgt := 453) C.hx C.hb dL_refuses_192 (by decide) (fun c9 => absurd c9 (by decide +kernel)) (fun _ => ?_)
  refine lv_aload_n C.hx C.hb dL_refuses_195 rfl (lv_at hl 13 rfl) ?_
  refine lv_iconst (v := nI 0) C.hx C.hb dL_refuses_196 (by decide +kernel) ?_
  refine lv_iconst (v := nI 0) C.hx C.hb dL_refuses_197 (by decide +kernel) ?_
  refine lv_iconst (v := nI 0) C.hx C.hb dL_refuses_198 (by decide +kernel) ?_
  refine lv_iload C.hx C.hb dL_refuses_199 (lv_at hl 6 rfl) ?_
  refine lv_iconst (v := nI 1) C.hx C.hb dL_refuses_201 (by decide +kernel) ?_
  refine lv_icmp_ne (tgt := 210) C.hx C.hb dL_refuses_202 (by decide) (fun _ => ?_) (fun c9 => absurd c9 (by decide +kernel))
  refine lv_iload C.hx C.hb dL_refuses_210 (lv_at hl 5 rfl) ?_
  refine lv_bipush (v := nI 7) C.hx C.hb dL_refuses_212 (by decide +kernel) ?_
  refine q_cR (w := 0) (p0 := nI 0) (p1 := nI 0) (p2 := nI 2147483647) (p3 := nI 7) (r := -7000002) (c2 := 122) (s2 := 732) C hs hP hD hS (rm_pl C.htr (Or.inr (q_r_nI (by decide))) (by decide +kernel) (by decide +kernel) (by decide +kernel)) hl rfl (Nat.le_of_ble_eq_true rfl) ⟨Nat.le_of_ble_eq_true rfl, Nat.le_of_ble_eq_true rfl⟩ ⟨Nat.le_of_ble_eq_true rfl, Nat.le_of_ble_eq_true rfl⟩ ⟨Nat.le_of_ble_eq_true rfl, Nat.le_of_ble_eq_true rfl⟩ dL_refuses_214 (fun g z H locs hs hP hD hS => ?_)
  refine lv_ldc (v := -7000002) C.hx C.hb C.hown (C.hT.use kk_L_93 args) dL_refuses_217 ?_
  refine lv_icmp_ne (tgt := 453) C.hx C.hb dL_refuses_219 (by decide) (fun c9 => absurd c9 (by decide +kernel)) (fun _ => ?_)
  refine lv_aload_n C.hx C.hb dL_refuses_222 rfl (lv_at hl 13 rfl) ?_
  refine lv_iconst (v := nI 1) C.hx C.hb dL_refuses_223 (by decide +kernel) ?_
  refine lv_iload C.hx C.hb dL_refuses_224 (lv_at hl 1 rfl) ?_
  refine lv_bipush (v := nI 99) C.hx C.hb dL_refuses_226 (by decide +kernel) ?_
  refine lv_iconst (v := nI 0) C.hx C.hb dL_refuses_228 (by decide +kernel) ?_
  refine lv_iconst (v := nI 0) C.hx C.hb dL_refuses_229 (by decide +kernel) ?_
  refine q_cR (w := 1) (p0 := nI 2147483647) (p1 := nI 99) (p2 := nI 0) (p3 := nI 0) (r := -7000001) (c2 := 123) (s2 := 738) C hs hP hD hS (rr_po C.htr (notr (by decide +kernel) (by decide))) hl rfl (Nat.le_of_ble_eq_true rfl) ⟨Nat.le_of_ble_eq_true rfl, Nat.le_of_ble_eq_true rfl⟩ ⟨Nat.le_of_ble_eq_true rfl, Nat.le_of_ble_eq_true rfl⟩ ⟨Nat.le_of_ble_eq_true rfl, Nat.le_of_ble_eq_true rfl⟩ dL_refuses_230 (fun g z H locs hs hP hD hS => ?_)
  refine lv_ldc (v := -7000001) C.hx C.hb C.hown (C.hT.use kk_L_90 args) dL_refuses_233 ?_
  refine lv_icmp_ne (tgt := 453) C.hx C.hb dL_refuses_235 (by decide) (fun c9 => absurd c9 (by decide +kernel)) (fun _ => ?_)
  refine lv_aload_n C.hx C.hb dL_refuses_238 rfl (lv_at hl 13 rfl) ?_
  refine lv_iconst (v := nI 1) C.hx C.hb dL_refuses_239 (by decide +kernel) ?_
  refine lv_iconst (v := nI 0) C.hx C.hb dL_refuses_240 (by decide +kernel) ?_
  refine lv_iload C.hx C.hb dL_refuses_241 (lv_at hl 0 rfl) ?_
  refine lv_iconst (v := nI 0) C.hx C.hb dL_refuses_243 (by decide +kernel) ?_
  refine lv_iconst (v := nI 0) C.hx C.hb dL_refuses_244 (by decide +kernel) ?_
  refine q_cR (w := 1) (p0 := nI 0) (p1 := nI 2147483647) (p2 := nI 0) (p3 := nI 0) (r := -7000002) (c2 := 124) (s2 := 744) C hs hP hD hS (rr_rk C.htr (q_r_nI (by decide)) (by decide +kernel)) hl rfl (Nat.le_of_ble_eq_true rfl) ⟨Nat.le_of_ble_eq_true rfl, Nat.le_of_ble_eq_true rfl⟩ ⟨Nat.le_of_ble_eq_true rfl, Nat.le_of_ble_eq_true rfl⟩ ⟨Nat.le_of_ble_eq_true rfl, Nat.le_of_ble_eq_true rfl⟩ dL_refuses_245 (fun g z H locs hs hP hD hS => ?_)
  refine lv_ldc (v := -7000002) C.hx C.hb C.hown (C.hT.use kk_L_93 args) dL_refuses_248 ?_
  refine lv_icmp_ne (tgt := 453) C.hx C.hb dL_refuses_250 (by decide) (fun c9 => absurd c9 (by decide +kernel)) (fun _ => ?_)
  refine lv_aload_n C.hx C.hb dL_refuses_253 rfl (lv_at hl 13 rfl) ?_
  refine lv_iconst (v := nI 2) C.hx C.hb dL_refuses_254 (by decide +kernel) ?_
  refine lv_iload C.hx C.hb dL_refuses_255 (lv_at hl 1 rfl) ?_
  refine lv_iload C.hx C.hb dL_refuses_257 (lv_at hl 1 rfl) ?_
  refine lv_iconst (v := nI 1) C.hx C.hb dL_refuses_259 (by decide +kernel) ?_
  refine lv_iconst (v := nI 0) C.hx C.hb dL_refuses_260 (by decide +kernel) ?_
  refine q_cR (w := 2) (p0 := nI 2147483647) (p1 := nI 2147483647) (p2 := nI 1) (p3 := nI 0) (r := -7000001) (c2 := 125) (s2 := 750) C hs hP hD hS (rb_1 C.htr (notr (by decide +kernel) (by decide))) hl rfl (Nat.le_of_ble_eq_true rfl) ⟨Nat.le_of_ble_eq_true rfl, Nat.le_of_ble_eq_true rfl⟩ ⟨Nat.le_of_ble_eq_true rfl, Nat.le_of_ble_eq_true rfl⟩ ⟨Nat.le_of_ble_eq_true rfl, Nat.le_of_ble_eq_true rfl⟩ dL_refuses_261 (fun g z H locs hs hP hD hS => ?_)
  refine lv_ldc (v := -7000001) C.hx C.hb C.hown (C.hT.use kk_L_90 args) dL_refuses_264 ?_
  refine lv_icmp_ne (tgt := 453) C.hx C.hb dL_refuses_266 (by decide) (fun c9 => absurd c9 (by decide +kernel)) (fun _ => ?_)
  refine lv_aload_n C.hx C.hb dL_refuses_269 rfl (lv_at hl 13 rfl) ?_
  refine lv_iconst (v := nI 2) C.hx C.hb dL_refuses_270 (by decide +kernel) ?_
  refine lv_iconst (v := nI 0) C.hx C.hb dL_refuses_271 (by decide +kernel) ?_
  refine lv_iload C.hx C.hb dL_refuses_272 (lv_at hl 1 rfl) ?_
  refine lv_iconst (v := nI 1) C.hx C.hb dL_refuses_274 (by decide +kernel) ?_
  refine lv_iconst (v := nI 0) C.hx C.hb dL_refuses_275 (by decide +kernel) ?_
  refine q_cR (w := 2) (p0 := nI 0) (p1 := nI 2147483647) (p2 := nI 1) (p3 := nI 0) (r := -7000001) (c2 := 126) (s2 := 756) C hs hP hD hS (rb_2 C.htr (q_r_nI (by decide)) (notr (by decide +kernel) (by decide))) hl rfl (Nat.le_of_ble_eq_true rfl) ⟨Nat.le_of_ble_eq_true rfl, Nat.le_of_ble_eq_true rfl⟩ ⟨Nat.le_of_ble_eq_true rfl, Nat.le_of_ble_eq_true rfl⟩ ⟨Nat.le_of_ble_eq_true rfl, Nat.le_of_ble_eq_true rfl⟩ dL_refuses_276 (fun g z H locs hs hP hD hS => ?_)
  refine lv_ldc (v := -7000001) C.hx C.hb C.hown (C.hT.use kk_L_90 args) dL_refuses_279 ?_
  refine lv_icmp_ne (tgt := 453) C.hx C.hb dL_refuses_281 (by decide) (fun c9 => absurd c9 (by decide +kernel)) (fun _ => ?_)
  refine lv_aload_n C.hx C.hb dL_refuses_284 rfl (lv_at hl 13 rfl) ?_
  refine lv_iconst (v := nI 2) C.hx C.hb dL_refuses_285 (by decide +kernel) ?_
  refine lv_iconst (v := nI 3) C.hx C.hb dL_refuses_286 (by decide +kernel) ?_
  refine lv_iconst (v := nI 3) C.hx C.hb dL_refuses_287 (by decide +kernel) ?_
  refine lv_iconst (v := nI 1) C.hx C.hb dL_refuses_288 (by decide +kernel) ?_
  refine lv_iconst (v := nI 0) C.hx C.hb dL_refuses_289 (by decide +kernel) ?_
  refine q_cR (w := 2) (p0 := nI 3) (p1 := nI 3) (p2 := nI 1) (p3 := nI 0) (r := -7000002) (c2 := 127) (s2 := 762) C hs hP hD hS (rb_3 C.htr (q_r_nI (by decide))) hl rfl (Nat.le_of_ble_eq_true rfl) ⟨Nat.le_of_ble_eq_true rfl, Nat.le_of_ble_eq_true rfl⟩ ⟨Nat.le_of_ble_eq_true rfl, Nat.le_of_ble_eq_true rfl⟩ ⟨Nat.le_of_ble_eq_true rfl, Nat.le_of_ble_eq_true rfl⟩ dL_refuses_290 (fun g z H locs hs hP hD hS => ?_)
  refine lv_ldc (v := -7000002) C.hx C.hb C.hown (C.hT.use kk_L_93 args) dL_refuses_293 ?_
  refine lv_icmp_ne (tgt := 453) C.hx C.hb dL_refuses_295 (by decide) (fun c9 => absurd c9 (by decide +kernel)) (fun _ => ?_)
  exact kk g z H locs ls hs hP hD hS hl

set_option maxRecDepth 100000 in
set_option maxHeartbeats 4000000 in
theorem tf_56 {p : Program} {l : Launch} {e : Env} {s : State} {m : MethodId} {args : Array Value} {below : List Frame} {meth : Method} {c : Code} {D : va_G} {cA : ClassId} {A : Nat → Prop} {ad : Nat → Nat} {Q : State → Prop} {g0 : Nat → Nat → Int32} {a t b : Nat} (ha : a ≤ 16) (hb9 : b ≤ 40) (hab : 0 < a → 0 < b) (C : lcx p l s m c cL_refuses 16 D cA A) (kk : ∀ (g : Nat → Nat → Int32) (z : Nat → Nat) (H : Heap) (locs : List Loc) (ls : Array Slot), SR g0 a t b g z → va_P D vwCl (rlW cA ad g z) H → va_D A (rlW cA ad g z) → va_S A s.heap H locs → lv_has ls 16 [(11, .int (nI 2147483647)), (10, .int (nI 2147483647)), (9, .int (nI 2147483647)), (8, .int (nI 2147483647)), (7, .int (nI 2147483647)), (6, .int (nI 2147483647)), (5, .int (nI 2)), (12, .int (nI 1)), (13, .int (nI 20)), (15, .int (nI 1)), (14, .int (nI 1)), (4, .int (nI (dfO g0 a a))), (3, .int (nI 2147483647)), (0, .ref (ad 70)), (1, .int (nI a)), (2, .int (nI b))] → W p l e rm_Lr s m args below meth c H locs 134 804 Q (F0 m 432 ls [])) : ∀ (g : Nat → Nat → Int32) (z : Nat → Nat) (H : Heap) (locs : List Loc) (ls : Array Slot), SR g0 a t b g z → va_P D vwCl (rlW cA ad g z) H → va_D A (rlW cA ad g z) → va_S A s.heap H locs → lv_has ls 16 [(11, .int (nI 2147483647)), (10, .int (nI 2147483647)), (9, .int (nI 2147483647)), (8, .int (nI 2147483647)), (7, .int (nI 2147483647)), (6, .int (nI 2147483647)), (5, .int (nI 2)), (12, .int (nI 1)), (13, .int (nI 20)), (15, .int (nI 1)), (14, .int (nI 1)), (4, .int (nI (dfO g0 a a))), (3, .int (nI 2147483647)), (0, .ref (ad 70)), (1, .int (nI a)), (2, .int (nI b))] → W p l e rm_Lr s m args below meth c H locs 127 762 Q (F0 m 298 ls []) := by
  intro g z H locs ls hs hP hD hS hl
  refine lv_aload_n C.hx C.hb dL_refuses_298 rfl (lv_at hl 13 rfl) ?_
  refine lv_iconst (v := nI 4) C.hx C.hb dL_refuses_299 (by decide +kernel) ?_
  refine lv_iload C.hx C.hb dL_refuses_300 (lv_at hl 3 rfl) ?_
  refine lv_iconst (v := nI 5) C.hx C.hb dL_refuses_302 (by decide +kernel) ?_
  refine lv_iconst (v := nI 4) C.hx C.hb dL_refuses_303 (by decide +kernel) ?_
  refine lv_iconst (v := nI 0) C.hx C.hb dL_refuses_304 (by decide +kernel) ?_
  refine q_cR (w := 4) (p0 := nI 2147483647) (p1 := nI 5) (p2 := nI 4) (p3 := nI 0) (r := -7000001) (c2 := 128) (s2 := 768) C hs hP hD hS (ri_find C.htr (notr (by decide +kernel) (by omega))) hl rfl (Nat.le_of_ble_eq_true rfl) ⟨Nat.le_of_ble_eq_true rfl, Nat.le_of_ble_eq_true rfl⟩ ⟨Nat.le_of_ble_eq_true rfl, Nat.le_of_ble_eq_true rfl⟩ ⟨Nat.le_of_ble_eq_true rfl, Nat.le_of_ble_eq_true rfl⟩ dL_refuses_305 (fun g z H locs hs hP hD hS => ?_)
  refine lv_ldc (v := -7000001) C.hx C.hb C.hown (C.hT.use kk_L_90 args) dL_refuses_308 ?_
  refine lv_icmp_ne (tgt := 453) C.hx C.hb dL_refuses_310 (by decide) (fun c9 => absurd c9 (by decide +kernel)) (fun _ => ?_)
  refine lv_aload_n C.hx C.hb dL_refuses_313 rfl (lv_at hl 13 rfl) ?_
  refine lv_iconst (v := nI 5) C.hx C.hb dL_refuses_314 (by decide +kernel) ?_
  refine lv_iload C.hx C.hb dL_refuses_315 (lv_at hl 3 rfl) ?_
  refine lv_iconst (v := nI 5) C.hx C.hb dL_refuses_317 (by decide +kernel) ?_
  refine lv_iconst (v := nI 4) C.hx C.hb dL_refuses_318 (by decide +kernel) ?_
  refine lv_iconst (v := nI 0) C.hx C.hb dL_refuses_319 (by decide +kernel) ?_
  refine q_cR (w := 5) (p0 := nI 2147483647) (p1 := nI 5) (p2 := nI 4) (p3 := nI 0) (r := -7000001) (c2 := 129) (s2 := 774) C hs hP hD hS (ri_wouldMove C.htr (notr (by decide +kernel) (by omega))) hl rfl (Nat.le_of_ble_eq_true rfl) ⟨Nat.le_of_ble_eq_true rfl, Nat.le_of_ble_eq_true rfl⟩ ⟨Nat.le_of_ble_eq_true rfl, Nat.le_of_ble_eq_true rfl⟩ ⟨Nat.le_of_ble_eq_true rfl, Nat.le_of_ble_eq_true rfl⟩ dL_refuses_320 (fun g z H locs hs hP hD hS => ?_)
  refine lv_ldc (v := -7000001) C.hx C.hb C.hown (C.hT.use kk_L_90 args) dL_refuses_323 ?_
  refine lv_icmp_ne (tgt := 453) C.hx C.hb dL_refuses_325 (by decide) (fun c9 => absurd c9 (by decide +kernel)) (fun _ => ?_)
  refine lv_aload_n C.hx C.hb dL_refuses_328 rfl (lv_at hl 13 rfl) ?_
  refine lv_bipush (v := nI 17) C.hx C.hb dL_refuses_329 (by decide +kernel) ?_
  refine lv_iload C.hx C.hb dL_refuses_331 (lv_at hl 2 rfl) ?_
  refine lv_iconst (v := nI 0) C.hx C.hb dL_refuses_333 (by decide +kernel) ?_
  refine lv_iconst (v := nI 0) C.hx C.hb dL_refuses_334 (by decide +kernel) ?_
  refine lv_iconst (v := nI 0) C.hx C.hb dL_refuses_335 (by decide +kernel) ?_
  refine q_cR (w := 17) (p0 := nI 2147483647) (p1 := nI 0) (p2 := nI 0) (p3 := nI 0) (r := -7000001) (c2 := 130) (s2 := 780) C hs hP hD hS (ri_careerAt C.htr (notr (by decide +kernel) (by omega))) hl rfl (Nat.le_of_ble_eq_true rfl) ⟨Nat.le_of_ble_eq_true rfl, Nat.le_of_ble_eq_true rfl⟩ ⟨Nat.le_of_ble_eq_true rfl, Nat.le_of_ble_eq_true rfl⟩ ⟨Nat.le_of_ble_eq_true rfl, Nat.le_of_ble_eq_true rfl⟩ dL_refuses_336 (fun g z H locs hs hP hD hS => ?_)
  refine lv_ldc (v := -7000001) C.hx C.hb C.hown (C.hT.use kk_L_90 args) dL_refuses_339 ?_
  refine lv_icmp_ne (tgt := 453) C.hx C.hb dL_refuses_341 (by decide) (fun c9 => absurd c9 (by decide +kernel)) (fun _ => ?_)
  refine lv_aload_n C.hx C.hb dL_refuses_344 rfl (lv_at hl 13 rfl) ?_
  refine lv_bipush (v := nI 20) C.hx C.hb dL_refuses_345 (by decide +kernel) ?_
  refine lv_iload C.hx C.hb dL_refuses_347 (lv_at hl 2 rfl) ?_
  refine lv_iconst (v := nI 0) C.hx C.hb dL_refuses_349 (by decide +kernel) ?_
  refine lv_iconst (v := nI 0) C.hx C.hb dL_refuses_350 (by decide +kernel) ?_
  refine lv_iconst (v := nI 0) C.hx C.hb dL_refuses_351 (by decide +kernel) ?_
  refine q_cR (w := 20) (p0 := nI 2147483647) (p1 := nI 0) (p2 := nI 0) (p3 := nI 0) (r := -7000001) (c2 := 131) (s2 := 786) C hs hP hD hS (ri_degree C.htr (notr (by decide +kernel) (by omega))) hl rfl (Nat.le_of_ble_eq_true rfl) ⟨Nat.le_of_ble_eq_true rfl, Nat.le_of_ble_eq_true rfl⟩ ⟨Nat.le_of_ble_eq_true rfl, Nat.le_of_ble_eq_true rfl⟩ ⟨Nat.le_of_ble_eq_true rfl, Nat.le_of_ble_eq_true rfl⟩ dL_refuses_352 (fun g z H locs hs hP hD hS => ?_)
  refine lv_ldc (v := -7000001) C.hx C.hb C.hown (C.hT.use kk_L_90 args) dL_refuses_355 ?_
  refine lv_icmp_ne (tgt := 453) C.hx C.hb dL_refuses_357 (by decide) (fun c9 => absurd c9 (by decide +kernel)) (fun _ => ?_)
  refine lv_aload_n C.hx C.hb dL_refuses_360 rfl (lv_at hl 13 rfl) ?_
  refine lv_bipush (v := nI 20) C.hx C.hb dL_refuses_361 (by decide +kernel) ?_
  refine lv_iconst (v := nI 0) C.hx C.hb dL_refuses_363 (by decide +kernel) ?_
  refine lv_iload C.hx C.hb dL_refuses_364 (lv_at hl 2 rfl) ?_
  refine lv_iconst (v := nI 0) C.hx C.hb dL_refuses_366 (by decide +kernel) ?_
  refine lv_iconst (v := nI 0) C.hx C.hb dL_refuses_367 (by decide +kernel) ?_
  refine q_cR (w := 20) (p0 := nI 0) (p1 := nI 2147483647) (p2 := nI 0) (p3 := nI 0) (r := -7000001) (c2 := 132) (s2 := 792) C hs hP hD hS (rj_degree C.htr (notr (by decide +kernel) (by omega))) hl rfl (Nat.le_of_ble_eq_true rfl) ⟨Nat.le_of_ble_eq_true rfl, Nat.le_of_ble_eq_true rfl⟩ ⟨Nat.le_of_ble_eq_true rfl, Nat.le_of_ble_eq_true rfl⟩ ⟨Nat.le_of_ble_eq_true rfl, Nat.le_of_ble_eq_true rfl⟩ dL_refuses_368 (fun g z H locs hs hP hD hS => ?_)
  refine lv_ldc (v := -7000001) C.hx C.hb C.hown (C.hT.use kk_L_90 args) dL_refuses_371 ?_
  refine lv_icmp_ne (tgt := 453) C.hx C.hb dL_refuses_373 (by decide) (fun c9 => absurd c9 (by decide +kernel)) (fun _ => ?_)
  refine lv_aload_n C.hx C.hb dL_refuses_376 rfl (lv_at hl 13 rfl) ?_
  refine lv_bipush (v := nI 21) C.hx C.hb dL_refuses_377 (by decide +kernel) ?_
  refine lv_iload C.hx C.hb dL_refuses_379 (lv_at hl 6 rfl) ?_
  refine lv_iconst (v := nI 1) C.hx C.hb dL_refuses_381 (by decide +kernel) ?_
  refine lv_icmp_ne (tgt := 391) C.hx C.hb dL_refuses_382 (by decide) (fun _ => ?_) (fun c9 => absurd c9 (by decide +kernel))
  refine lv_iload C.hx C.hb dL_refuses_391 (lv_at hl 5 rfl) ?_
  refine lv_iconst (v := nI 0) C.hx C.hb dL_refuses_393 (by decide +kernel) ?_
  refine lv_iconst (v := nI 0) C.hx C.hb dL_refuses_394 (by decide +kernel) ?_
  refine lv_iconst (v := nI 0) C.hx C.hb dL_refuses_395 (by decide +kernel) ?_
  refine q_cR (w := 21) (p0 := nI 2147483647) (p1 := nI 0) (p2 := nI 0) (p3 := nI 0) (r := -7000002) (c2 := 133) (s2 := 798) C hs hP hD hS (rt_best C.htr (shB (by decide +kernel) ha)) hl rfl (Nat.le_of_ble_eq_true rfl) ⟨Nat.le_of_ble_eq_true rfl, Nat.le_of_ble_eq_true rfl⟩ ⟨Nat.le_of_ble_eq_true rfl, Nat.le_of_ble_eq_true rfl⟩ ⟨Nat.le_of_ble_eq_true rfl, Nat.le_of_ble_eq_true rfl⟩ dL_refuses_396 (fun g z H locs hs hP hD hS => ?_)
  refine lv_ldc (v := -7000002) C.hx C.hb C.hown (C.hT.use kk_L_93 args) dL_refuses_399 ?_
  refine lv_icmp_ne (tgt := 453) C.hx C.hb dL_refuses_401 (by decide) (fun c9 => absurd c9 (by decide +kernel)) (fun _ => ?_)
  refine lv_aload_n C.hx C.hb dL_refuses_404 rfl (lv_at hl 13 rfl) ?_
  refine lv_bipush (v := nI 22) C.hx C.hb dL_refuses_405 (by decide +kernel) ?_
  refine lv_iload C.hx C.hb dL_refuses_407 (lv_at hl 6 rfl) ?_
  refine lv_iconst (v := nI 1) C.hx C.hb dL_refuses_409 (by decide +kernel) ?_
  refine lv_icmp_ne (tgt := 419) C.hx C.hb dL_refuses_410 (by decide) (fun _ => ?_) (fun c9 => absurd c9 (by decide +kernel))
  refine lv_iload C.hx C.hb dL_refuses_419 (lv_at hl 5 rfl) ?_
  refine lv_iconst (v := nI 0) C.hx C.hb dL_refuses_421 (by decide +kernel) ?_
  refine lv_iconst (v := nI 0) C.hx C.hb dL_refuses_422 (by decide +kernel) ?_
  refine lv_iconst (v := nI 0) C.hx C.hb dL_refuses_423 (by decide +kernel) ?_
  refine q_cR (w := 22) (p0 := nI 2147483647) (p1 := nI 0) (p2 := nI 0) (p3 := nI 0) (r := -7000002) (c2 := 134) (s2 := 804) C hs hP hD hS (rt_bestAnew C.htr (shB (by decide +kernel) ha)) hl rfl (Nat.le_of_ble_eq_true rfl) ⟨Nat.le_of_ble_eq_true rfl, Nat.le_of_ble_eq_true rfl⟩ ⟨Nat.le_of_ble_eq_true rfl, Nat.le_of_ble_eq_true rfl⟩ ⟨Nat.le_of_ble_eq_true rfl, Nat.le_of_ble_eq_true rfl⟩ dL_refuses_424 (fun g z H locs hs hP hD hS => ?_)
  refine lv_ldc (v := -7000002) C.hx C.hb C.hown (C.hT.use kk_L_93 args) dL_refuses_427 ?_
  refine lv_icmp_ne (tgt := 453) C.hx C.hb dL_refuses_429 (by decide) (fun c9 => absurd c9 (by decide +kernel)) (fun _ => ?_)
  exact kk g z H locs ls hs hP hD hS hl

set_option maxRecDepth 100000 in
set_option maxHeartbeats 4000000 in
theorem tf_57 {p : Program} {l : Launch} {e : Env} {s : State} {m : MethodId} {args : Array Value} {below : List Frame} {meth : Method} {c : Code} {D : va_G} {cA : ClassId} {A : Nat → Prop} {ad : Nat → Nat} {Q : State → Prop} {g0 : Nat → Nat → Int32} {a t b : Nat} (ha : a ≤ 16) (hb9 : b ≤ 40) (hab : 0 < a → 0 < b) (C : lcx p l s m c cL_refuses 16 D cA A) (kk : ∀ (g : Nat → Nat → Int32) (z : Nat → Nat) (H : Heap) (locs : List Loc) (ls : Array Slot), SR g0 a t b g z → va_P D vwCl (rlW cA ad g z) H → va_D A (rlW cA ad g z) → va_S A s.heap H locs → lv_has ls 16 [(12, .int (nI 1)), (15, .int (nI 1)), (14, .int (nI 1)), (13, .int (nI 3)), (11, .int (nI 2147483647)), (10, .int (nI 2147483647)), (9, .int (nI 2147483647)), (8, .int (nI 2147483647)), (7, .int (nI 2147483647)), (6, .int (nI 2147483647)), (5, .int (nI 2)), (4, .int (nI (dfO g0 a a))), (3, .int (nI 2147483647)), (0, .ref (ad 70)), (1, .int (nI a)), (2, .int (nI b))] → W p l e rm_Lr s m args below meth c H locs 138 828 Q (F0 m 611 ls [])) : ∀ (g : Nat → Nat → Int32) (z : Nat → Nat) (H : Heap) (locs : List Loc) (ls : Array Slot), SR g0 a t b g z → va_P D vwCl (rlW cA ad g z) H → va_D A (rlW cA ad g z) → va_S A s.heap H locs → lv_has ls 16 [(11, .int (nI 2147483647)), (10, .int (nI 2147483647)), (9, .int (nI 2147483647)), (8, .int (nI 2147483647)), (7, .int (nI 2147483647)), (6, .int (nI 2147483647)), (5, .int (nI 2)), (12, .int (nI 1)), (13, .int (nI 20)), (15, .int (nI 1)), (14, .int (nI 1)), (4, .int (nI (dfO g0 a a))), (3, .int (nI 2147483647)), (0, .ref (ad 70)), (1, .int (nI a)), (2, .int (nI b))] → W p l e rm_Lr s m args below meth c H locs 134 804 Q (F0 m 432 ls []) := by
  intro g z H locs ls hs hP hD hS hl
  refine lv_aload_n C.hx C.hb dL_refuses_432 rfl (lv_at hl 13 rfl) ?_
  refine lv_bipush (v := nI 23) C.hx C.hb dL_refuses_433 (by decide +kernel) ?_
  refine lv_iload C.hx C.hb dL_refuses_435 (lv_at hl 3 rfl) ?_
  refine lv_bipush (v := nI 99) C.hx C.hb dL_refuses_437 (by decide +kernel) ?_
  refine lv_iconst (v := nI 0) C.hx C.hb dL_refuses_439 (by decide +kernel) ?_
  refine lv_iconst (v := nI 0) C.hx C.hb dL_refuses_440 (by decide +kernel) ?_
  refine q_cR (w := 23) (p0 := nI 2147483647) (p1 := nI 99) (p2 := nI 0) (p3 := nI 0) (r := -7000001) (c2 := 135) (s2 := 810) C hs hP hD hS (ri_rival C.htr (notr (by decide +kernel) (by omega))) hl rfl (Nat.le_of_ble_eq_true rfl) ⟨Nat.le_of_ble_eq_true rfl, Nat.le_of_ble_eq_true rfl⟩ ⟨Nat.le_of_ble_eq_true rfl, Nat.le_of_ble_eq_true rfl⟩ ⟨Nat.le_of_ble_eq_true rfl, Nat.le_of_ble_eq_true rfl⟩ dL_refuses_441 (fun g z H locs hs hP hD hS => ?_)
  refine lv_ldc (v := -7000001) C.hx C.hb C.hown (C.hT.use kk_L_90 args) dL_refuses_444 ?_
  refine lv_icmp_ne (tgt := 453) C.hx C.hb dL_refuses_446 (by decide) (fun c9 => absurd c9 (by decide +kernel)) (fun _ => ?_)
  refine lv_iconst (v := nI 1) C.hx C.hb dL_refuses_449 (by decide +kernel) ?_
  refine lv_goto (tgt := 454) C.hx C.hb dL_refuses_450 (by decide) ?_
  refine lv_istore (lv' := [(12, .int (nI 1)), (11, .int (nI 2147483647)), (10, .int (nI 2147483647)), (9, .int (nI 2147483647)), (8, .int (nI 2147483647)), (7, .int (nI 2147483647)), (6, .int (nI 2147483647)), (5, .int (nI 2)), (13, .int (nI 20)), (15, .int (nI 1)), (14, .int (nI 1)), (4, .int (nI (dfO g0 a a))), (3, .int (nI 2147483647)), (0, .ref (ad 70)), (1, .int (nI a)), (2, .int (nI b))]) C.hx C.hb dL_refuses_454 hl (by decide) rfl (fun ls hl => ?_)
  refine lv_iconst (v := nI 3) C.hx C.hb dL_refuses_456 (by decide +kernel) ?_
  refine lv_istore (lv' := [(13, .int (nI 3)), (12, .int (nI 1)), (11, .int (nI 2147483647)), (10, .int (nI 2147483647)), (9, .int (nI 2147483647)), (8, .int (nI 2147483647)), (7, .int (nI 2147483647)), (6, .int (nI 2147483647)), (5, .int (nI 2)), (15, .int (nI 1)), (14, .int (nI 1)), (4, .int (nI (dfO g0 a a))), (3, .int (nI 2147483647)), (0, .ref (ad 70)), (1, .int (nI a)), (2, .int (nI b))]) C.hx C.hb dL_refuses_457 hl (by decide) rfl (fun ls hl => ?_)
  refine lv_iload C.hx C.hb dL_refuses_459 (lv_at hl 0 rfl) ?_
  refine lv_bipush (v := nI 20) C.hx C.hb dL_refuses_461 (by decide +kernel) ?_
  refine lv_icmp_ge (tgt := 687) C.hx C.hb dL_refuses_463 (by decide) (fun c9 => absurd c9 (by decide +kernel)) (fun _ => ?_)
  refine lv_iload C.hx C.hb dL_refuses_466 (lv_at hl 1 rfl) ?_
  refine lv_if_eq (tgt := 687) C.hx C.hb dL_refuses_468 (by decide) (fun c9 => absurd c9 (by decide +kernel)) (fun _ => ?_)
  refine lv_iload C.hx C.hb dL_refuses_471 (lv_at hl 0 rfl) ?_
  refine lv_iconst (v := nI 4) C.hx C.hb dL_refuses_473 (by decide +kernel) ?_
  refine lv_icmp_lt (tgt := 497) C.hx C.hb dL_refuses_474 (by decide) (fun _ => ?_) (fun c9 => absurd c9 (by decide +kernel))
  refine lv_iconst (v := nI 1) C.hx C.hb dL_refuses_497 (by decide +kernel) ?_
  refine lv_goto (tgt := 502) C.hx C.hb dL_refuses_498 (by decide) ?_
  refine lv_istore (lv' := [(14, .int (nI 1)), (13, .int (nI 3)), (12, .int (nI 1)), (11, .int (nI 2147483647)), (10, .int (nI 2147483647)), (9, .int (nI 2147483647)), (8, .int (nI 2147483647)), (7, .int (nI 2147483647)), (6, .int (nI 2147483647)), (5, .int (nI 2)), (15, .int (nI 1)), (4, .int (nI (dfO g0 a a))), (3, .int (nI 2147483647)), (0, .ref (ad 70)), (1, .int (nI a)), (2, .int (nI b))]) C.hx C.hb dL_refuses_502 hl (by decide) rfl (fun ls hl => ?_)
  refine lv_iload C.hx C.hb dL_refuses_504 (lv_at hl 1 rfl) ?_
  refine lv_iconst (v := nI 3) C.hx C.hb dL_refuses_506 (by decide +kernel) ?_
  refine lv_icmp_eq (tgt := 531) C.hx C.hb dL_refuses_507 (by decide) (fun _ => ?_) (fun c9 => absurd c9 (by decide +kernel))
  refine lv_iconst (v := nI 1) C.hx C.hb dL_refuses_531 (by decide +kernel) ?_
  refine lv_goto (tgt := 536) C.hx C.hb dL_refuses_532 (by decide) ?_
  refine lv_istore (lv' := [(15, .int (nI 1)), (14, .int (nI 1)), (13, .int (nI 3)), (12, .int (nI 1)), (11, .int (nI 2147483647)), (10, .int (nI 2147483647)), (9, .int (nI 2147483647)), (8, .int (nI 2147483647)), (7, .int (nI 2147483647)), (6, .int (nI 2147483647)), (5, .int (nI 2)), (4, .int (nI (dfO g0 a a))), (3, .int (nI 2147483647)), (0, .ref (ad 70)), (1, .int (nI a)), (2, .int (nI b))]) C.hx C.hb dL_refuses_536 hl (by decide) rfl (fun ls hl => ?_)
  refine lv_iload C.hx C.hb dL_refuses_538 (lv_at hl 1 rfl) ?_
  refine lv_if_eq (tgt := 567) C.hx C.hb dL_refuses_540 (by decide) (fun c9 => absurd c9 (by decide +kernel)) (fun _ => ?_)
  refine lv_aload_n C.hx C.hb dL_refuses_543 rfl (lv_at hl 13 rfl) ?_
  refine lv_iload C.hx C.hb dL_refuses_544 (lv_at hl 2 rfl) ?_
  refine lv_iload C.hx C.hb dL_refuses_546 (lv_at hl 7 rfl) ?_
  refine lv_iconst (v := nI 0) C.hx C.hb dL_refuses_548 (by decide +kernel) ?_
  refine lv_bipush (v := nI 99) C.hx C.hb dL_refuses_549 (by decide +kernel) ?_
  refine lv_iconst (v := nI 0) C.hx C.hb dL_refuses_551 (by decide +kernel) ?_
  refine q_cR (w := 3) (p0 := nI 2147483647) (p1 := nI 0) (p2 := nI 99) (p3 := nI 0) (r := -7000001) (c2 := 136) (s2 := 816) C hs hP hD hS (ri_ahead C.htr (notr (by decide +kernel) (by omega))) hl rfl (Nat.le_of_ble_eq_true rfl) ⟨Nat.le_of_ble_eq_true rfl, Nat.le_of_ble_eq_true rfl⟩ ⟨Nat.le_of_ble_eq_true rfl, Nat.le_of_ble_eq_true rfl⟩ ⟨Nat.le_of_ble_eq_true rfl, Nat.le_of_ble_eq_true rfl⟩ dL_refuses_552 (fun g z H locs hs hP hD hS => ?_)
  refine lv_ldc (v := -7000001) C.hx C.hb C.hown (C.hT.use kk_L_90 args) dL_refuses_555 ?_
  refine lv_icmp_ne (tgt := 564) C.hx C.hb dL_refuses_557 (by decide) (fun c9 => absurd c9 (by decide +kernel)) (fun _ => ?_)
  refine lv_iconst (v := nI 1) C.hx C.hb dL_refuses_560 (by decide +kernel) ?_
  refine lv_goto (tgt := 565) C.hx C.hb dL_refuses_561 (by decide) ?_
  refine lv_istore (lv' := [(12, .int (nI 1)), (15, .int (nI 1)), (14, .int (nI 1)), (13, .int (nI 3)), (11, .int (nI 2147483647)), (10, .int (nI 2147483647)), (9, .int (nI 2147483647)), (8, .int (nI 2147483647)), (7, .int (nI 2147483647)), (6, .int (nI 2147483647)), (5, .int (nI 2)), (4, .int (nI (dfO g0 a a))), (3, .int (nI 2147483647)), (0, .ref (ad 70)), (1, .int (nI a)), (2, .int (nI b))]) C.hx C.hb dL_refuses_565 hl (by decide) rfl (fun ls hl => ?_)
  refine lv_iload C.hx C.hb dL_refuses_567 (lv_at hl 1 rfl) ?_
  refine lv_if_eq (tgt := 637) C.hx C.hb dL_refuses_569 (by decide) (fun c9 => absurd c9 (by decide +kernel)) (fun _ => ?_)
  refine lv_iload C.hx C.hb dL_refuses_572 (lv_at hl 0 rfl) ?_
  refine lv_if_eq (tgt := 634) C.hx C.hb dL_refuses_574 (by decide) (fun c9 => absurd c9 (by decide +kernel)) (fun _ => ?_)
  refine lv_aload_n C.hx C.hb dL_refuses_577 rfl (lv_at hl 13 rfl) ?_
  refine lv_iload C.hx C.hb dL_refuses_578 (lv_at hl 3 rfl) ?_
  refine lv_iconst (v := nI 0) C.hx C.hb dL_refuses_580 (by decide +kernel) ?_
  refine lv_iload C.hx C.hb dL_refuses_581 (lv_at hl 7 rfl) ?_
  refine lv_bipush (v := nI 99) C.hx C.hb dL_refuses_583 (by decide +kernel) ?_
  refine lv_iconst (v := nI 0) C.hx C.hb dL_refuses_585 (by decide +kernel) ?_
  refine q_cR (w := 3) (p0 := nI 0) (p1 := nI 2147483647) (p2 := nI 99) (p3 := nI 0) (r := -7000001) (c2 := 137) (s2 := 822) C hs hP hD hS (rj_ahead C.htr (notr (by decide +kernel) (by omega))) hl rfl (Nat.le_of_ble_eq_true rfl) ⟨Nat.le_of_ble_eq_true rfl, Nat.le_of_ble_eq_true rfl⟩ ⟨Nat.le_of_ble_eq_true rfl, Nat.le_of_ble_eq_true rfl⟩ ⟨Nat.le_of_ble_eq_true rfl, Nat.le_of_ble_eq_true rfl⟩ dL_refuses_586 (fun g z H locs hs hP hD hS => ?_)
  refine lv_ldc (v := -7000001) C.hx C.hb C.hown (C.hT.use kk_L_90 args) dL_refuses_589 ?_
  refine lv_icmp_ne (tgt := 634) C.hx C.hb dL_refuses_591 (by decide) (fun c9 => absurd c9 (by decide +kernel)) (fun _ => ?_)
  refine lv_aload_n C.hx C.hb dL_refuses_594 rfl (lv_at hl 13 rfl) ?_
  refine lv_iload C.hx C.hb dL_refuses_595 (lv_at hl 3 rfl) ?_
  refine lv_iload C.hx C.hb dL_refuses_597 (lv_at hl 7 rfl) ?_
  refine lv_iload C.hx C.hb dL_refuses_599 (lv_at hl 7 rfl) ?_
  refine lv_iconst (v := nI 0) C.hx C.hb dL_refuses_601 (by decide +kernel) ?_
  refine lv_iconst (v := nI 0) C.hx C.hb dL_refuses_602 (by decide +kernel) ?_
  refine q_cR (w := 3) (p0 := nI 2147483647) (p1 := nI 2147483647) (p2 := nI 0) (p3 := nI 0) (r := -7000001) (c2 := 138) (s2 := 828) C hs hP hD hS (ri_ahead C.htr (notr (by decide +kernel) (by omega))) hl rfl (Nat.le_of_ble_eq_true rfl) ⟨Nat.le_of_ble_eq_true rfl, Nat.le_of_ble_eq_true rfl⟩ ⟨Nat.le_of_ble_eq_true rfl, Nat.le_of_ble_eq_true rfl⟩ ⟨Nat.le_of_ble_eq_true rfl, Nat.le_of_ble_eq_true rfl⟩ dL_refuses_603 (fun g z H locs hs hP hD hS => ?_)
  refine lv_ldc (v := -7000001) C.hx C.hb C.hown (C.hT.use kk_L_90 args) dL_refuses_606 ?_
  refine lv_icmp_ne (tgt := 634) C.hx C.hb dL_refuses_608 (by decide) (fun c9 => absurd c9 (by decide +kernel)) (fun _ => ?_)
  exact kk g z H locs ls hs hP hD hS hl

set_option maxRecDepth 100000 in
set_option maxHeartbeats 4000000 in
theorem tf_58 {p : Program} {l : Launch} {e : Env} {s : State} {m : MethodId} {args : Array Value} {below : List Frame} {meth : Method} {c : Code} {D : va_G} {cA : ClassId} {A : Nat → Prop} {ad : Nat → Nat} {Q : State → Prop} {g0 : Nat → Nat → Int32} {a t b : Nat} (ha : a ≤ 16) (hb9 : b ≤ 40) (hab : 0 < a → 0 < b) (C : lcx p l s m c cL_refuses 16 D cA A) (kk : ∀ (g : Nat → Nat → Int32) (z : Nat → Nat) (H : Heap) (locs : List Loc) (ls : Array Slot), SR g0 a t b g z → va_P D vwCl (rlW cA ad g z) H → va_D A (rlW cA ad g z) → va_S A s.heap H locs → lv_has ls 16 [(12, .int (nI 1)), (15, .int (nI 1)), (14, .int (nI 1)), (13, .int (nI 3)), (11, .int (nI 2147483647)), (10, .int (nI 2147483647)), (9, .int (nI 2147483647)), (8, .int (nI 2147483647)), (7, .int (nI 2147483647)), (6, .int (nI 2147483647)), (5, .int (nI 2)), (4, .int (nI (dfO g0 a a))), (3, .int (nI 2147483647)), (0, .ref (ad 70)), (1, .int (nI a)), (2, .int (nI b))] → W p l e rm_Lr s m args below meth c H locs 139 834 Q (F0 m 630 ls [])) : ∀ (g : Nat → Nat → Int32) (z : Nat → Nat) (H : Heap) (locs : List Loc) (ls : Array Slot), SR g0 a t b g z → va_P D vwCl (rlW cA ad g z) H → va_D A (rlW cA ad g z) → va_S A s.heap H locs → lv_has ls 16 [(12, .int (nI 1)), (15, .int (nI 1)), (14, .int (nI 1)), (13, .int (nI 3)), (11, .int (nI 2147483647)), (10, .int (nI 2147483647)), (9, .int (nI 2147483647)), (8, .int (nI 2147483647)), (7, .int (nI 2147483647)), (6, .int (nI 2147483647)), (5, .int (nI 2)), (4, .int (nI (dfO g0 a a))), (3, .int (nI 2147483647)), (0, .ref (ad 70)), (1, .int (nI a)), (2, .int (nI b))] → W p l e rm_Lr s m args below meth c H locs 138 828 Q (F0 m 611 ls []) := by
  intro g z H locs ls hs hP hD hS hl
  refine lv_iload_n C.hx C.hb dL_refuses_611 rfl (lv_at hl 14 rfl) ?_
  refine lv_if_eq (tgt := 630) C.hx C.hb dL_refuses_612 (by decide) (fun c9 => ?_) (fun c9 => ?_)
  · refine W.widen (k := 139) (n := 834) (Nat.le_of_ble_eq_true rfl) (Nat.le_of_ble_eq_true rfl) ?_
    exact kk g z H locs ls hs hP hD hS hl
  · have ha0 : 0 < a := Nat.pos_of_ne_zero (fun q => c9 (by rw [q]; rfl))
    have hb0 : 0 < b := hab ha0
    refine lv_aload_n C.hx C.hb dL_refuses_615 rfl (lv_at hl 13 rfl) ?_
    refine lv_iload C.hx C.hb dL_refuses_616 (lv_at hl 3 rfl) ?_
    refine lv_iconst (v := nI 0) C.hx C.hb dL_refuses_618 (by decide +kernel) ?_
    refine lv_iconst (v := nI 0) C.hx C.hb dL_refuses_619 (by decide +kernel) ?_
    refine lv_iconst (v := nI 0) C.hx C.hb dL_refuses_620 (by decide +kernel) ?_
    refine lv_iconst (v := nI 0) C.hx C.hb dL_refuses_621 (by decide +kernel) ?_
    refine q_cR (w := 3) (p0 := nI 0) (p1 := nI 0) (p2 := nI 0) (p3 := nI 0) (r := -7000002) (c2 := 139) (s2 := 834) C hs hP hD hS (rs_ahead C.htr (q_r_nI (by omega))) hl rfl (Nat.le_of_ble_eq_true rfl) ⟨Nat.le_of_ble_eq_true rfl, Nat.le_of_ble_eq_true rfl⟩ ⟨Nat.le_of_ble_eq_true rfl, Nat.le_of_ble_eq_true rfl⟩ ⟨Nat.le_of_ble_eq_true rfl, Nat.le_of_ble_eq_true rfl⟩ dL_refuses_622 (fun g z H locs hs hP hD hS => ?_)
    refine lv_ldc (v := -7000002) C.hx C.hb C.hown (C.hT.use kk_L_93 args) dL_refuses_625 ?_
    refine lv_icmp_ne (tgt := 634) C.hx C.hb dL_refuses_627 (by decide) (fun c9 => absurd c9 (by decide +kernel)) (fun _ => ?_)
    exact kk g z H locs ls hs hP hD hS hl

set_option maxRecDepth 100000 in
set_option maxHeartbeats 4000000 in
theorem tf_59 {p : Program} {l : Launch} {e : Env} {s : State} {m : MethodId} {args : Array Value} {below : List Frame} {meth : Method} {c : Code} {D : va_G} {cA : ClassId} {A : Nat → Prop} {ad : Nat → Nat} {Q : State → Prop} {g0 : Nat → Nat → Int32} {a t b : Nat} (ha : a ≤ 16) (hb9 : b ≤ 40) (hab : 0 < a → 0 < b) (C : lcx p l s m c cL_refuses 16 D cA A) (kk : ∀ (g : Nat → Nat → Int32) (z : Nat → Nat) (H : Heap) (locs : List Loc) (ls : Array Slot), SR g0 a t b g z → va_P D vwCl (rlW cA ad g z) H → va_D A (rlW cA ad g z) → va_S A s.heap H locs → lv_has ls 16 [(13, .int (nI 5)), (15, .int (nI 0)), (14, .int (nI 0)), (12, .int (nI 1)), (11, .int (nI 2147483647)), (10, .int (nI 2147483647)), (9, .int (nI 2147483647)), (8, .int (nI 2147483647)), (7, .int (nI 2147483647)), (6, .int (nI 2147483647)), (5, .int (nI 2)), (4, .int (nI (dfO g0 a a))), (3, .int (nI 2147483647)), (0, .ref (ad 70)), (1, .int (nI a)), (2, .int (nI b))] → W p l e rm_Lr s m args below meth c H locs 139 834 Q (F0 m 471 ls [])) : ∀ (g : Nat → Nat → Int32) (z : Nat → Nat) (H : Heap) (locs : List Loc) (ls : Array Slot), SR g0 a t b g z → va_P D vwCl (rlW cA ad g z) H → va_D A (rlW cA ad g z) → va_S A s.heap H locs → lv_has ls 16 [(12, .int (nI 1)), (15, .int (nI 1)), (14, .int (nI 1)), (13, .int (nI 3)), (11, .int (nI 2147483647)), (10, .int (nI 2147483647)), (9, .int (nI 2147483647)), (8, .int (nI 2147483647)), (7, .int (nI 2147483647)), (6, .int (nI 2147483647)), (5, .int (nI 2)), (4, .int (nI (dfO g0 a a))), (3, .int (nI 2147483647)), (0, .ref (ad 70)), (1, .int (nI a)), (2, .int (nI b))] → W p l e rm_Lr s m args below meth c H locs 139 834 Q (F0 m 630 ls []) := by
  intro g z H locs ls hs hP hD hS hl
  refine lv_iconst (v := nI 1) C.hx C.hb dL_refuses_630 (by decide +kernel) ?_
  refine lv_goto (tgt := 635) C.hx C.hb dL_refuses_631 (by decide) ?_
  refine lv_istore (lv' := [(12, .int (nI 1)), (15, .int (nI 1)), (14, .int (nI 1)), (13, .int (nI 3)), (11, .int (nI 2147483647)), (10, .int (nI 2147483647)), (9, .int (nI 2147483647)), (8, .int (nI 2147483647)), (7, .int (nI 2147483647)), (6, .int (nI 2147483647)), (5, .int (nI 2)), (4, .int (nI (dfO g0 a a))), (3, .int (nI 2147483647)), (0, .ref (ad 70)), (1, .int (nI a)), (2, .int (nI b))]) C.hx C.hb dL_refuses_635 hl (by decide) rfl (fun ls hl => ?_)
  refine lv_iload C.hx C.hb dL_refuses_637 (lv_at hl 3 rfl) ?_
  refine lv_bipush (v := nI 15) C.hx C.hb dL_refuses_639 (by decide +kernel) ?_
  refine lv_icmp_eq (tgt := 658) C.hx C.hb dL_refuses_641 (by decide) (fun c9 => absurd c9 (by decide +kernel)) (fun _ => ?_)
  refine lv_iload C.hx C.hb dL_refuses_644 (lv_at hl 3 rfl) ?_
  refine lv_bipush (v := nI 16) C.hx C.hb dL_refuses_646 (by decide +kernel) ?_
  refine lv_icmp_eq (tgt := 658) C.hx C.hb dL_refuses_648 (by decide) (fun c9 => absurd c9 (by decide +kernel)) (fun _ => ?_)
  refine lv_iload C.hx C.hb dL_refuses_651 (lv_at hl 3 rfl) ?_
  refine lv_bipush (v := nI 18) C.hx C.hb dL_refuses_653 (by decide +kernel) ?_
  refine lv_icmp_ne (tgt := 681) C.hx C.hb dL_refuses_655 (by decide) (fun _ => ?_) (fun c9 => absurd c9 (by decide +kernel))
  refine lv_iinc (v := nI 4) (lv' := [(13, .int (nI 4)), (12, .int (nI 1)), (15, .int (nI 1)), (14, .int (nI 1)), (11, .int (nI 2147483647)), (10, .int (nI 2147483647)), (9, .int (nI 2147483647)), (8, .int (nI 2147483647)), (7, .int (nI 2147483647)), (6, .int (nI 2147483647)), (5, .int (nI 2)), (4, .int (nI (dfO g0 a a))), (3, .int (nI 2147483647)), (0, .ref (ad 70)), (1, .int (nI a)), (2, .int (nI b))]) C.hx C.hb dL_refuses_681 hl (k := 3) rfl (by decide +kernel) (by decide) rfl (fun ls hl => ?_)
  refine lv_goto (tgt := 459) C.hx C.hb dL_refuses_684 (by decide) ?_
  refine lv_iload C.hx C.hb dL_refuses_459 (lv_at hl 0 rfl) ?_
  refine lv_bipush (v := nI 20) C.hx C.hb dL_refuses_461 (by decide +kernel) ?_
  refine lv_icmp_ge (tgt := 687) C.hx C.hb dL_refuses_463 (by decide) (fun c9 => absurd c9 (by decide +kernel)) (fun _ => ?_)
  refine lv_iload C.hx C.hb dL_refuses_466 (lv_at hl 1 rfl) ?_
  refine lv_if_eq (tgt := 687) C.hx C.hb dL_refuses_468 (by decide) (fun c9 => absurd c9 (by decide +kernel)) (fun _ => ?_)
  refine lv_iload C.hx C.hb dL_refuses_471 (lv_at hl 0 rfl) ?_
  refine lv_iconst (v := nI 4) C.hx C.hb dL_refuses_473 (by decide +kernel) ?_
  refine lv_icmp_lt (tgt := 497) C.hx C.hb dL_refuses_474 (by decide) (fun c9 => absurd c9 (by decide +kernel)) (fun _ => ?_)
  refine lv_iload C.hx C.hb dL_refuses_477 (lv_at hl 0 rfl) ?_
  refine lv_iconst (v := nI 5) C.hx C.hb dL_refuses_479 (by decide +kernel) ?_
  refine lv_icmp_le (tgt := 490) C.hx C.hb dL_refuses_480 (by decide) (fun _ => ?_) (fun c9 => absurd c9 (by decide +kernel))
  refine lv_iload C.hx C.hb dL_refuses_490 (lv_at hl 0 rfl) ?_
  refine lv_bipush (v := nI 19) C.hx C.hb dL_refuses_492 (by decide +kernel) ?_
  refine lv_icmp_ne (tgt := 501) C.hx C.hb dL_refuses_494 (by decide) (fun _ => ?_) (fun c9 => absurd c9 (by decide +kernel))
  refine lv_iconst (v := nI 0) C.hx C.hb dL_refuses_501 (by decide +kernel) ?_
  refine lv_istore (lv' := [(14, .int (nI 0)), (13, .int (nI 4)), (12, .int (nI 1)), (15, .int (nI 1)), (11, .int (nI 2147483647)), (10, .int (nI 2147483647)), (9, .int (nI 2147483647)), (8, .int (nI 2147483647)), (7, .int (nI 2147483647)), (6, .int (nI 2147483647)), (5, .int (nI 2)), (4, .int (nI (dfO g0 a a))), (3, .int (nI 2147483647)), (0, .ref (ad 70)), (1, .int (nI a)), (2, .int (nI b))]) C.hx C.hb dL_refuses_502 hl (by decide) rfl (fun ls hl => ?_)
  refine lv_iload C.hx C.hb dL_refuses_504 (lv_at hl 1 rfl) ?_
  refine lv_iconst (v := nI 3) C.hx C.hb dL_refuses_506 (by decide +kernel) ?_
  refine lv_icmp_eq (tgt := 531) C.hx C.hb dL_refuses_507 (by decide) (fun c9 => absurd c9 (by decide +kernel)) (fun _ => ?_)
  refine lv_iload C.hx C.hb dL_refuses_510 (lv_at hl 1 rfl) ?_
  refine lv_bipush (v := nI 7) C.hx C.hb dL_refuses_512 (by decide +kernel) ?_
  refine lv_icmp_le (tgt := 524) C.hx C.hb dL_refuses_514 (by decide) (fun _ => ?_) (fun c9 => absurd c9 (by decide +kernel))
  refine lv_iload C.hx C.hb dL_refuses_524 (lv_at hl 1 rfl) ?_
  refine lv_bipush (v := nI 19) C.hx C.hb dL_refuses_526 (by decide +kernel) ?_
  refine lv_icmp_ne (tgt := 535) C.hx C.hb dL_refuses_528 (by decide) (fun _ => ?_) (fun c9 => absurd c9 (by decide +kernel))
  refine lv_iconst (v := nI 0) C.hx C.hb dL_refuses_535 (by decide +kernel) ?_
  refine lv_istore (lv' := [(15, .int (nI 0)), (14, .int (nI 0)), (13, .int (nI 4)), (12, .int (nI 1)), (11, .int (nI 2147483647)), (10, .int (nI 2147483647)), (9, .int (nI 2147483647)), (8, .int (nI 2147483647)), (7, .int (nI 2147483647)), (6, .int (nI 2147483647)), (5, .int (nI 2)), (4, .int (nI (dfO g0 a a))), (3, .int (nI 2147483647)), (0, .ref (ad 70)), (1, .int (nI a)), (2, .int (nI b))]) C.hx C.hb dL_refuses_536 hl (by decide) rfl (fun ls hl => ?_)
  refine lv_iload C.hx C.hb dL_refuses_538 (lv_at hl 1 rfl) ?_
  refine lv_if_eq (tgt := 567) C.hx C.hb dL_refuses_540 (by decide) (fun _ => ?_) (fun c9 => absurd c9 (by decide +kernel))
  refine lv_iload C.hx C.hb dL_refuses_567 (lv_at hl 0 rfl) ?_
  refine lv_if_eq (tgt := 637) C.hx C.hb dL_refuses_569 (by decide) (fun _ => ?_) (fun c9 => absurd c9 (by decide +kernel))
  refine lv_iload C.hx C.hb dL_refuses_637 (lv_at hl 2 rfl) ?_
  refine lv_bipush (v := nI 15) C.hx C.hb dL_refuses_639 (by decide +kernel) ?_
  refine lv_icmp_eq (tgt := 658) C.hx C.hb dL_refuses_641 (by decide) (fun c9 => absurd c9 (by decide +kernel)) (fun _ => ?_)
  refine lv_iload C.hx C.hb dL_refuses_644 (lv_at hl 2 rfl) ?_
  refine lv_bipush (v := nI 16) C.hx C.hb dL_refuses_646 (by decide +kernel) ?_
  refine lv_icmp_eq (tgt := 658) C.hx C.hb dL_refuses_648 (by decide) (fun c9 => absurd c9 (by decide +kernel)) (fun _ => ?_)
  refine lv_iload C.hx C.hb dL_refuses_651 (lv_at hl 2 rfl) ?_
  refine lv_bipush (v := nI 18) C.hx C.hb dL_refuses_653 (by decide +kernel) ?_
  refine lv_icmp_ne (tgt := 681) C.hx C.hb dL_refuses_655 (by decide) (fun _ => ?_) (fun c9 => absurd c9 (by decide +kernel))
  refine lv_iinc (v := nI 5) (lv' := [(13, .int (nI 5)), (15, .int (nI 0)), (14, .int (nI 0)), (12, .int (nI 1)), (11, .int (nI 2147483647)), (10, .int (nI 2147483647)), (9, .int (nI 2147483647)), (8, .int (nI 2147483647)), (7, .int (nI 2147483647)), (6, .int (nI 2147483647)), (5, .int (nI 2)), (4, .int (nI (dfO g0 a a))), (3, .int (nI 2147483647)), (0, .ref (ad 70)), (1, .int (nI a)), (2, .int (nI b))]) C.hx C.hb dL_refuses_681 hl (k := 2) rfl (by decide +kernel) (by decide) rfl (fun ls hl => ?_)
  refine lv_goto (tgt := 459) C.hx C.hb dL_refuses_684 (by decide) ?_
  refine lv_iload C.hx C.hb dL_refuses_459 (lv_at hl 0 rfl) ?_
  refine lv_bipush (v := nI 20) C.hx C.hb dL_refuses_461 (by decide +kernel) ?_
  refine lv_icmp_ge (tgt := 687) C.hx C.hb dL_refuses_463 (by decide) (fun c9 => absurd c9 (by decide +kernel)) (fun _ => ?_)
  refine lv_iload C.hx C.hb dL_refuses_466 (lv_at hl 3 rfl) ?_
  refine lv_if_eq (tgt := 687) C.hx C.hb dL_refuses_468 (by decide) (fun c9 => absurd c9 (by decide +kernel)) (fun _ => ?_)
  exact kk g z H locs ls hs hP hD hS hl

set_option maxRecDepth 100000 in
set_option maxHeartbeats 4000000 in
theorem tf_60 {p : Program} {l : Launch} {e : Env} {s : State} {m : MethodId} {args : Array Value} {below : List Frame} {meth : Method} {c : Code} {D : va_G} {cA : ClassId} {A : Nat → Prop} {ad : Nat → Nat} {Q : State → Prop} {g0 : Nat → Nat → Int32} {a t b : Nat} (ha : a ≤ 16) (hb9 : b ≤ 40) (hab : 0 < a → 0 < b) (C : lcx p l s m c cL_refuses 16 D cA A) (kk : ∀ (g : Nat → Nat → Int32) (z : Nat → Nat) (H : Heap) (locs : List Loc) (ls : Array Slot), SR g0 a t b g z → va_P D vwCl (rlW cA ad g z) H → va_D A (rlW cA ad g z) → va_S A s.heap H locs → lv_has ls 16 [(14, .int (nI 1)), (13, .int (nI 6)), (15, .int (nI 0)), (12, .int (nI 1)), (11, .int (nI 2147483647)), (10, .int (nI 2147483647)), (9, .int (nI 2147483647)), (8, .int (nI 2147483647)), (7, .int (nI 2147483647)), (6, .int (nI 2147483647)), (5, .int (nI 2)), (4, .int (nI (dfO g0 a a))), (3, .int (nI 2147483647)), (0, .ref (ad 70)), (1, .int (nI a)), (2, .int (nI b))] → W p l e rm_Lr s m args below meth c H locs 139 834 Q (F0 m 535 ls [])) : ∀ (g : Nat → Nat → Int32) (z : Nat → Nat) (H : Heap) (locs : List Loc) (ls : Array Slot), SR g0 a t b g z → va_P D vwCl (rlW cA ad g z) H → va_D A (rlW cA ad g z) → va_S A s.heap H locs → lv_has ls 16 [(13, .int (nI 5)), (15, .int (nI 0)), (14, .int (nI 0)), (12, .int (nI 1)), (11, .int (nI 2147483647)), (10, .int (nI 2147483647)), (9, .int (nI 2147483647)), (8, .int (nI 2147483647)), (7, .int (nI 2147483647)), (6, .int (nI 2147483647)), (5, .int (nI 2)), (4, .int (nI (dfO g0 a a))), (3, .int (nI 2147483647)), (0, .ref (ad 70)), (1, .int (nI a)), (2, .int (nI b))] → W p l e rm_Lr s m args below meth c H locs 139 834 Q (F0 m 471 ls []) := by
  intro g z H locs ls hs hP hD hS hl
  refine lv_iload C.hx C.hb dL_refuses_471 (lv_at hl 0 rfl) ?_
  refine lv_iconst (v := nI 4) C.hx C.hb dL_refuses_473 (by decide +kernel) ?_
  refine lv_icmp_lt (tgt := 497) C.hx C.hb dL_refuses_474 (by decide) (fun c9 => absurd c9 (by decide +kernel)) (fun _ => ?_)
  refine lv_iload C.hx C.hb dL_refuses_477 (lv_at hl 0 rfl) ?_
  refine lv_iconst (v := nI 5) C.hx C.hb dL_refuses_479 (by decide +kernel) ?_
  refine lv_icmp_le (tgt := 490) C.hx C.hb dL_refuses_480 (by decide) (fun _ => ?_) (fun c9 => absurd c9 (by decide +kernel))
  refine lv_iload C.hx C.hb dL_refuses_490 (lv_at hl 0 rfl) ?_
  refine lv_bipush (v := nI 19) C.hx C.hb dL_refuses_492 (by decide +kernel) ?_
  refine lv_icmp_ne (tgt := 501) C.hx C.hb dL_refuses_494 (by decide) (fun _ => ?_) (fun c9 => absurd c9 (by decide +kernel))
  refine lv_iconst (v := nI 0) C.hx C.hb dL_refuses_501 (by decide +kernel) ?_
  refine lv_istore (lv' := [(14, .int (nI 0)), (13, .int (nI 5)), (15, .int (nI 0)), (12, .int (nI 1)), (11, .int (nI 2147483647)), (10, .int (nI 2147483647)), (9, .int (nI 2147483647)), (8, .int (nI 2147483647)), (7, .int (nI 2147483647)), (6, .int (nI 2147483647)), (5, .int (nI 2)), (4, .int (nI (dfO g0 a a))), (3, .int (nI 2147483647)), (0, .ref (ad 70)), (1, .int (nI a)), (2, .int (nI b))]) C.hx C.hb dL_refuses_502 hl (by decide) rfl (fun ls hl => ?_)
  refine lv_iload C.hx C.hb dL_refuses_504 (lv_at hl 1 rfl) ?_
  refine lv_iconst (v := nI 3) C.hx C.hb dL_refuses_506 (by decide +kernel) ?_
  refine lv_icmp_eq (tgt := 531) C.hx C.hb dL_refuses_507 (by decide) (fun c9 => absurd c9 (by decide +kernel)) (fun _ => ?_)
  refine lv_iload C.hx C.hb dL_refuses_510 (lv_at hl 1 rfl) ?_
  refine lv_bipush (v := nI 7) C.hx C.hb dL_refuses_512 (by decide +kernel) ?_
  refine lv_icmp_le (tgt := 524) C.hx C.hb dL_refuses_514 (by decide) (fun _ => ?_) (fun c9 => absurd c9 (by decide +kernel))
  refine lv_iload C.hx C.hb dL_refuses_524 (lv_at hl 1 rfl) ?_
  refine lv_bipush (v := nI 19) C.hx C.hb dL_refuses_526 (by decide +kernel) ?_
  refine lv_icmp_ne (tgt := 535) C.hx C.hb dL_refuses_528 (by decide) (fun _ => ?_) (fun c9 => absurd c9 (by decide +kernel))
  refine lv_iconst (v := nI 0) C.hx C.hb dL_refuses_535 (by decide +kernel) ?_
  refine lv_istore (lv' := [(15, .int (nI 0)), (14, .int (nI 0)), (13, .int (nI 5)), (12, .int (nI 1)), (11, .int (nI 2147483647)), (10, .int (nI 2147483647)), (9, .int (nI 2147483647)), (8, .int (nI 2147483647)), (7, .int (nI 2147483647)), (6, .int (nI 2147483647)), (5, .int (nI 2)), (4, .int (nI (dfO g0 a a))), (3, .int (nI 2147483647)), (0, .ref (ad 70)), (1, .int (nI a)), (2, .int (nI b))]) C.hx C.hb dL_refuses_536 hl (by decide) rfl (fun ls hl => ?_)
  refine lv_iload C.hx C.hb dL_refuses_538 (lv_at hl 1 rfl) ?_
  refine lv_if_eq (tgt := 567) C.hx C.hb dL_refuses_540 (by decide) (fun _ => ?_) (fun c9 => absurd c9 (by decide +kernel))
  refine lv_iload C.hx C.hb dL_refuses_567 (lv_at hl 0 rfl) ?_
  refine lv_if_eq (tgt := 637) C.hx C.hb dL_refuses_569 (by decide) (fun _ => ?_) (fun c9 => absurd c9 (by decide +kernel))
  refine lv_iload C.hx C.hb dL_refuses_637 (lv_at hl 2 rfl) ?_
  refine lv_bipush (v := nI 15) C.hx C.hb dL_refuses_639 (by decide +kernel) ?_
  refine lv_icmp_eq (tgt := 658) C.hx C.hb dL_refuses_641 (by decide) (fun c9 => absurd c9 (by decide +kernel)) (fun _ => ?_)
  refine lv_iload C.hx C.hb dL_refuses_644 (lv_at hl 2 rfl) ?_
  refine lv_bipush (v := nI 16) C.hx C.hb dL_refuses_646 (by decide +kernel) ?_
  refine lv_icmp_eq (tgt := 658) C.hx C.hb dL_refuses_648 (by decide) (fun c9 => absurd c9 (by decide +kernel)) (fun _ => ?_)
  refine lv_iload C.hx C.hb dL_refuses_651 (lv_at hl 2 rfl) ?_
  refine lv_bipush (v := nI 18) C.hx C.hb dL_refuses_653 (by decide +kernel) ?_
  refine lv_icmp_ne (tgt := 681) C.hx C.hb dL_refuses_655 (by decide) (fun _ => ?_) (fun c9 => absurd c9 (by decide +kernel))
  refine lv_iinc (v := nI 6) (lv' := [(13, .int (nI 6)), (15, .int (nI 0)), (14, .int (nI 0)), (12, .int (nI 1)), (11, .int (nI 2147483647)), (10, .int (nI 2147483647)), (9, .int (nI 2147483647)), (8, .int (nI 2147483647)), (7, .int (nI 2147483647)), (6, .int (nI 2147483647)), (5, .int (nI 2)), (4, .int (nI (dfO g0 a a))), (3, .int (nI 2147483647)), (0, .ref (ad 70)), (1, .int (nI a)), (2, .int (nI b))]) C.hx C.hb dL_refuses_681 hl (k := 2) rfl (by decide +kernel) (by decide) rfl (fun ls hl => ?_)
  refine lv_goto (tgt := 459) C.hx C.hb dL_refuses_684 (by decide) ?_
  refine lv_iload C.hx C.hb dL_refuses_459 (lv_at hl 0 rfl) ?_
  refine lv_bipush (v := nI 20) C.hx C.hb dL_refuses_461 (by decide +kernel) ?_
  refine lv_icmp_ge (tgt := 687) C.hx C.hb dL_refuses_463 (by decide) (fun c9 => absurd c9 (by decide +kernel)) (fun _ => ?_)
  refine lv_iload C.hx C.hb dL_refuses_466 (lv_at hl 3 rfl) ?_
  refine lv_if_eq (tgt := 687) C.hx C.hb dL_refuses_468 (by decide) (fun c9 => absurd c9 (by decide +kernel)) (fun _ => ?_)
  refine lv_iload C.hx C.hb dL_refuses_471 (lv_at hl 0 rfl) ?_
  refine lv_iconst (v := nI 4) C.hx C.hb dL_refuses_473 (by decide +kernel) ?_
  refine lv_icmp_lt (tgt := 497) C.hx C.hb dL_refuses_474 (by decide) (fun c9 => absurd c9 (by decide +kernel)) (fun _ => ?_)
  refine lv_iload C.hx C.hb dL_refuses_477 (lv_at hl 0 rfl) ?_
  refine lv_iconst (v := nI 5) C.hx C.hb dL_refuses_479 (by decide +kernel) ?_
  refine lv_icmp_le (tgt := 490) C.hx C.hb dL_refuses_480 (by decide) (fun c9 => absurd c9 (by decide +kernel)) (fun _ => ?_)
  refine lv_iload C.hx C.hb dL_refuses_483 (lv_at hl 0 rfl) ?_
  refine lv_bipush (v := nI 15) C.hx C.hb dL_refuses_485 (by decide +kernel) ?_
  refine lv_icmp_lt (tgt := 497) C.hx C.hb dL_refuses_487 (by decide) (fun _ => ?_) (fun c9 => absurd c9 (by decide +kernel))
  refine lv_iconst (v := nI 1) C.hx C.hb dL_refuses_497 (by decide +kernel) ?_
  refine lv_goto (tgt := 502) C.hx C.hb dL_refuses_498 (by decide) ?_
  refine lv_istore (lv' := [(14, .int (nI 1)), (13, .int (nI 6)), (15, .int (nI 0)), (12, .int (nI 1)), (11, .int (nI 2147483647)), (10, .int (nI 2147483647)), (9, .int (nI 2147483647)), (8, .int (nI 2147483647)), (7, .int (nI 2147483647)), (6, .int (nI 2147483647)), (5, .int (nI 2)), (4, .int (nI (dfO g0 a a))), (3, .int (nI 2147483647)), (0, .ref (ad 70)), (1, .int (nI a)), (2, .int (nI b))]) C.hx C.hb dL_refuses_502 hl (by decide) rfl (fun ls hl => ?_)
  refine lv_iload C.hx C.hb dL_refuses_504 (lv_at hl 1 rfl) ?_
  refine lv_iconst (v := nI 3) C.hx C.hb dL_refuses_506 (by decide +kernel) ?_
  refine lv_icmp_eq (tgt := 531) C.hx C.hb dL_refuses_507 (by decide) (fun c9 => absurd c9 (by decide +kernel)) (fun _ => ?_)
  refine lv_iload C.hx C.hb dL_refuses_510 (lv_at hl 1 rfl) ?_
  refine lv_bipush (v := nI 7) C.hx C.hb dL_refuses_512 (by decide +kernel) ?_
  refine lv_icmp_le (tgt := 524) C.hx C.hb dL_refuses_514 (by decide) (fun _ => ?_) (fun c9 => absurd c9 (by decide +kernel))
  refine lv_iload C.hx C.hb dL_refuses_524 (lv_at hl 1 rfl) ?_
  refine lv_bipush (v := nI 19) C.hx C.hb dL_refuses_526 (by decide +kernel) ?_
  refine lv_icmp_ne (tgt := 535) C.hx C.hb dL_refuses_528 (by decide) (fun _ => ?_) (fun c9 => absurd c9 (by decide +kernel))
  exact kk g z H locs ls hs hP hD hS hl

set_option maxRecDepth 100000 in
set_option maxHeartbeats 4000000 in
theorem tf_61 {p : Program} {l : Launch} {e : Env} {s : State} {m : MethodId} {args : Array Value} {below : List Frame} {meth : Method} {c : Code} {D : va_G} {cA : ClassId} {A : Nat → Prop} {ad : Nat → Nat} {Q : State → Prop} {g0 : Nat → Nat → Int32} {a t b : Nat} (ha : a ≤ 16) (hb9 : b ≤ 40) (hab : 0 < a → 0 < b) (C : lcx p l s m c cL_refuses 16 D cA A) (kk : ∀ (g : Nat → Nat → Int32) (z : Nat → Nat) (H : Heap) (locs : List Loc) (ls : Array Slot), SR g0 a t b g z → va_P D vwCl (rlW cA ad g z) H → va_D A (rlW cA ad g z) → va_S A s.heap H locs → lv_has ls 16 [(15, .int (nI 0)), (14, .int (nI 1)), (13, .int (nI 7)), (12, .int (nI 1)), (11, .int (nI 2147483647)), (10, .int (nI 2147483647)), (9, .int (nI 2147483647)), (8, .int (nI 2147483647)), (7, .int (nI 2147483647)), (6, .int (nI 2147483647)), (5, .int (nI 2)), (4, .int (nI (dfO g0 a a))), (3, .int (nI 2147483647)), (0, .ref (ad 70)), (1, .int (nI a)), (2, .int (nI b))] → W p l e rm_Lr s m args below meth c H locs 141 846 Q (F0 m 560 ls [])) : ∀ (g : Nat → Nat → Int32) (z : Nat → Nat) (H : Heap) (locs : List Loc) (ls : Array Slot), SR g0 a t b g z → va_P D vwCl (rlW cA ad g z) H → va_D A (rlW cA ad g z) → va_S A s.heap H locs → lv_has ls 16 [(14, .int (nI 1)), (13, .int (nI 6)), (15, .int (nI 0)), (12, .int (nI 1)), (11, .int (nI 2147483647)), (10, .int (nI 2147483647)), (9, .int (nI 2147483647)), (8, .int (nI 2147483647)), (7, .int (nI 2147483647)), (6, .int (nI 2147483647)), (5, .int (nI 2)), (4, .int (nI (dfO g0 a a))), (3, .int (nI 2147483647)), (0, .ref (ad 70)), (1, .int (nI a)), (2, .int (nI b))] → W p l e rm_Lr s m args below meth c H locs 139 834 Q (F0 m 535 ls []) := by
  intro g z H locs ls hs hP hD hS hl
  refine lv_iconst (v := nI 0) C.hx C.hb dL_refuses_535 (by decide +kernel) ?_
  refine lv_istore (lv' := [(15, .int (nI 0)), (14, .int (nI 1)), (13, .int (nI 6)), (12, .int (nI 1)), (11, .int (nI 2147483647)), (10, .int (nI 2147483647)), (9, .int (nI 2147483647)), (8, .int (nI 2147483647)), (7, .int (nI 2147483647)), (6, .int (nI 2147483647)), (5, .int (nI 2)), (4, .int (nI (dfO g0 a a))), (3, .int (nI 2147483647)), (0, .ref (ad 70)), (1, .int (nI a)), (2, .int (nI b))]) C.hx C.hb dL_refuses_536 hl (by decide) rfl (fun ls hl => ?_)
  refine lv_iload C.hx C.hb dL_refuses_538 (lv_at hl 1 rfl) ?_
  refine lv_if_eq (tgt := 567) C.hx C.hb dL_refuses_540 (by decide) (fun c9 => absurd c9 (by decide +kernel)) (fun _ => ?_)
  refine lv_aload_n C.hx C.hb dL_refuses_543 rfl (lv_at hl 13 rfl) ?_
  refine lv_iload C.hx C.hb dL_refuses_544 (lv_at hl 2 rfl) ?_
  refine lv_iload C.hx C.hb dL_refuses_546 (lv_at hl 7 rfl) ?_
  refine lv_iconst (v := nI 0) C.hx C.hb dL_refuses_548 (by decide +kernel) ?_
  refine lv_bipush (v := nI 99) C.hx C.hb dL_refuses_549 (by decide +kernel) ?_
  refine lv_iconst (v := nI 0) C.hx C.hb dL_refuses_551 (by decide +kernel) ?_
  refine q_cR (w := 6) (p0 := nI 2147483647) (p1 := nI 0) (p2 := nI 99) (p3 := nI 0) (r := -7000001) (c2 := 140) (s2 := 840) C hs hP hD hS (ri_year C.htr (notr (by decide +kernel) (by omega))) hl rfl (Nat.le_of_ble_eq_true rfl) ⟨Nat.le_of_ble_eq_true rfl, Nat.le_of_ble_eq_true rfl⟩ ⟨Nat.le_of_ble_eq_true rfl, Nat.le_of_ble_eq_true rfl⟩ ⟨Nat.le_of_ble_eq_true rfl, Nat.le_of_ble_eq_true rfl⟩ dL_refuses_552 (fun g z H locs hs hP hD hS => ?_)
  refine lv_ldc (v := -7000001) C.hx C.hb C.hown (C.hT.use kk_L_90 args) dL_refuses_555 ?_
  refine lv_icmp_ne (tgt := 564) C.hx C.hb dL_refuses_557 (by decide) (fun c9 => absurd c9 (by decide +kernel)) (fun _ => ?_)
  refine lv_iconst (v := nI 1) C.hx C.hb dL_refuses_560 (by decide +kernel) ?_
  refine lv_goto (tgt := 565) C.hx C.hb dL_refuses_561 (by decide) ?_
  refine lv_istore (lv' := [(12, .int (nI 1)), (15, .int (nI 0)), (14, .int (nI 1)), (13, .int (nI 6)), (11, .int (nI 2147483647)), (10, .int (nI 2147483647)), (9, .int (nI 2147483647)), (8, .int (nI 2147483647)), (7, .int (nI 2147483647)), (6, .int (nI 2147483647)), (5, .int (nI 2)), (4, .int (nI (dfO g0 a a))), (3, .int (nI 2147483647)), (0, .ref (ad 70)), (1, .int (nI a)), (2, .int (nI b))]) C.hx C.hb dL_refuses_565 hl (by decide) rfl (fun ls hl => ?_)
  refine lv_iload C.hx C.hb dL_refuses_567 (lv_at hl 1 rfl) ?_
  refine lv_if_eq (tgt := 637) C.hx C.hb dL_refuses_569 (by decide) (fun _ => ?_) (fun c9 => absurd c9 (by decide +kernel))
  refine lv_iload C.hx C.hb dL_refuses_637 (lv_at hl 3 rfl) ?_
  refine lv_bipush (v := nI 15) C.hx C.hb dL_refuses_639 (by decide +kernel) ?_
  refine lv_icmp_eq (tgt := 658) C.hx C.hb dL_refuses_641 (by decide) (fun c9 => absurd c9 (by decide +kernel)) (fun _ => ?_)
  refine lv_iload C.hx C.hb dL_refuses_644 (lv_at hl 3 rfl) ?_
  refine lv_bipush (v := nI 16) C.hx C.hb dL_refuses_646 (by decide +kernel) ?_
  refine lv_icmp_eq (tgt := 658) C.hx C.hb dL_refuses_648 (by decide) (fun c9 => absurd c9 (by decide +kernel)) (fun _ => ?_)
  refine lv_iload C.hx C.hb dL_refuses_651 (lv_at hl 3 rfl) ?_
  refine lv_bipush (v := nI 18) C.hx C.hb dL_refuses_653 (by decide +kernel) ?_
  refine lv_icmp_ne (tgt := 681) C.hx C.hb dL_refuses_655 (by decide) (fun _ => ?_) (fun c9 => absurd c9 (by decide +kernel))
  refine lv_iinc (v := nI 7) (lv' := [(13, .int (nI 7)), (12, .int (nI 1)), (15, .int (nI 0)), (14, .int (nI 1)), (11, .int (nI 2147483647)), (10, .int (nI 2147483647)), (9, .int (nI 2147483647)), (8, .int (nI 2147483647)), (7, .int (nI 2147483647)), (6, .int (nI 2147483647)), (5, .int (nI 2)), (4, .int (nI (dfO g0 a a))), (3, .int (nI 2147483647)), (0, .ref (ad 70)), (1, .int (nI a)), (2, .int (nI b))]) C.hx C.hb dL_refuses_681 hl (k := 3) rfl (by decide +kernel) (by decide) rfl (fun ls hl => ?_)
  refine lv_goto (tgt := 459) C.hx C.hb dL_refuses_684 (by decide) ?_
  refine lv_iload C.hx C.hb dL_refuses_459 (lv_at hl 0 rfl) ?_
  refine lv_bipush (v := nI 20) C.hx C.hb dL_refuses_461 (by decide +kernel) ?_
  refine lv_icmp_ge (tgt := 687) C.hx C.hb dL_refuses_463 (by decide) (fun c9 => absurd c9 (by decide +kernel)) (fun _ => ?_)
  refine lv_iload C.hx C.hb dL_refuses_466 (lv_at hl 1 rfl) ?_
  refine lv_if_eq (tgt := 687) C.hx C.hb dL_refuses_468 (by decide) (fun c9 => absurd c9 (by decide +kernel)) (fun _ => ?_)
  refine lv_iload C.hx C.hb dL_refuses_471 (lv_at hl 0 rfl) ?_
  refine lv_iconst (v := nI 4) C.hx C.hb dL_refuses_473 (by decide +kernel) ?_
  refine lv_icmp_lt (tgt := 497) C.hx C.hb dL_refuses_474 (by decide) (fun c9 => absurd c9 (by decide +kernel)) (fun _ => ?_)
  refine lv_iload C.hx C.hb dL_refuses_477 (lv_at hl 0 rfl) ?_
  refine lv_iconst (v := nI 5) C.hx C.hb dL_refuses_479 (by decide +kernel) ?_
  refine lv_icmp_le (tgt := 490) C.hx C.hb dL_refuses_480 (by decide) (fun c9 => absurd c9 (by decide +kernel)) (fun _ => ?_)
  refine lv_iload C.hx C.hb dL_refuses_483 (lv_at hl 0 rfl) ?_
  refine lv_bipush (v := nI 15) C.hx C.hb dL_refuses_485 (by decide +kernel) ?_
  refine lv_icmp_lt (tgt := 497) C.hx C.hb dL_refuses_487 (by decide) (fun _ => ?_) (fun c9 => absurd c9 (by decide +kernel))
  refine lv_iconst (v := nI 1) C.hx C.hb dL_refuses_497 (by decide +kernel) ?_
  refine lv_goto (tgt := 502) C.hx C.hb dL_refuses_498 (by decide) ?_
  refine lv_istore (lv' := [(14, .int (nI 1)), (13, .int (nI 7)), (12, .int (nI 1)), (15, .int (nI 0)), (11, .int (nI 2147483647)), (10, .int (nI 2147483647)), (9, .int (nI 2147483647)), (8, .int (nI 2147483647)), (7, .int (nI 2147483647)), (6, .int (nI 2147483647)), (5, .int (nI 2)), (4, .int (nI (dfO g0 a a))), (3, .int (nI 2147483647)), (0, .ref (ad 70)), (1, .int (nI a)), (2, .int (nI b))]) C.hx C.hb dL_refuses_502 hl (by decide) rfl (fun ls hl => ?_)
  refine lv_iload C.hx C.hb dL_refuses_504 (lv_at hl 1 rfl) ?_
  refine lv_iconst (v := nI 3) C.hx C.hb dL_refuses_506 (by decide +kernel) ?_
  refine lv_icmp_eq (tgt := 531) C.hx C.hb dL_refuses_507 (by decide) (fun c9 => absurd c9 (by decide +kernel)) (fun _ => ?_)
  refine lv_iload C.hx C.hb dL_refuses_510 (lv_at hl 1 rfl) ?_
  refine lv_bipush (v := nI 7) C.hx C.hb dL_refuses_512 (by decide +kernel) ?_
  refine lv_icmp_le (tgt := 524) C.hx C.hb dL_refuses_514 (by decide) (fun _ => ?_) (fun c9 => absurd c9 (by decide +kernel))
  refine lv_iload C.hx C.hb dL_refuses_524 (lv_at hl 1 rfl) ?_
  refine lv_bipush (v := nI 19) C.hx C.hb dL_refuses_526 (by decide +kernel) ?_
  refine lv_icmp_ne (tgt := 535) C.hx C.hb dL_refuses_528 (by decide) (fun _ => ?_) (fun c9 => absurd c9 (by decide +kernel))
  refine lv_iconst (v := nI 0) C.hx C.hb dL_refuses_535 (by decide +kernel) ?_
  refine lv_istore (lv' := [(15, .int (nI 0)), (14, .int (nI 1)), (13, .int (nI 7)), (12, .int (nI 1)), (11, .int (nI 2147483647)), (10, .int (nI 2147483647)), (9, .int (nI 2147483647)), (8, .int (nI 2147483647)), (7, .int (nI 2147483647)), (6, .int (nI 2147483647)), (5, .int (nI 2)), (4, .int (nI (dfO g0 a a))), (3, .int (nI 2147483647)), (0, .ref (ad 70)), (1, .int (nI a)), (2, .int (nI b))]) C.hx C.hb dL_refuses_536 hl (by decide) rfl (fun ls hl => ?_)
  refine lv_iload C.hx C.hb dL_refuses_538 (lv_at hl 1 rfl) ?_
  refine lv_if_eq (tgt := 567) C.hx C.hb dL_refuses_540 (by decide) (fun c9 => absurd c9 (by decide +kernel)) (fun _ => ?_)
  refine lv_aload_n C.hx C.hb dL_refuses_543 rfl (lv_at hl 13 rfl) ?_
  refine lv_iload C.hx C.hb dL_refuses_544 (lv_at hl 2 rfl) ?_
  refine lv_iload C.hx C.hb dL_refuses_546 (lv_at hl 7 rfl) ?_
  refine lv_iconst (v := nI 0) C.hx C.hb dL_refuses_548 (by decide +kernel) ?_
  refine lv_bipush (v := nI 99) C.hx C.hb dL_refuses_549 (by decide +kernel) ?_
  refine lv_iconst (v := nI 0) C.hx C.hb dL_refuses_551 (by decide +kernel) ?_
  refine q_cR (w := 7) (p0 := nI 2147483647) (p1 := nI 0) (p2 := nI 99) (p3 := nI 0) (r := -7000001) (c2 := 141) (s2 := 846) C hs hP hD hS (ri_yearAnew C.htr (notr (by decide +kernel) (by omega))) hl rfl (Nat.le_of_ble_eq_true rfl) ⟨Nat.le_of_ble_eq_true rfl, Nat.le_of_ble_eq_true rfl⟩ ⟨Nat.le_of_ble_eq_true rfl, Nat.le_of_ble_eq_true rfl⟩ ⟨Nat.le_of_ble_eq_true rfl, Nat.le_of_ble_eq_true rfl⟩ dL_refuses_552 (fun g z H locs hs hP hD hS => ?_)
  refine lv_ldc (v := -7000001) C.hx C.hb C.hown (C.hT.use kk_L_90 args) dL_refuses_555 ?_
  refine lv_icmp_ne (tgt := 564) C.hx C.hb dL_refuses_557 (by decide) (fun c9 => absurd c9 (by decide +kernel)) (fun _ => ?_)
  exact kk g z H locs ls hs hP hD hS hl

set_option maxRecDepth 100000 in
set_option maxHeartbeats 4000000 in
theorem tf_62 {p : Program} {l : Launch} {e : Env} {s : State} {m : MethodId} {args : Array Value} {below : List Frame} {meth : Method} {c : Code} {D : va_G} {cA : ClassId} {A : Nat → Prop} {ad : Nat → Nat} {Q : State → Prop} {g0 : Nat → Nat → Int32} {a t b : Nat} (ha : a ≤ 16) (hb9 : b ≤ 40) (hab : 0 < a → 0 < b) (C : lcx p l s m c cL_refuses 16 D cA A) (kk : ∀ (g : Nat → Nat → Int32) (z : Nat → Nat) (H : Heap) (locs : List Loc) (ls : Array Slot), SR g0 a t b g z → va_P D vwCl (rlW cA ad g z) H → va_D A (rlW cA ad g z) → va_S A s.heap H locs → lv_has ls 16 [(12, .int (nI 1)), (15, .int (nI 1)), (14, .int (nI 1)), (13, .int (nI 8)), (11, .int (nI 2147483647)), (10, .int (nI 2147483647)), (9, .int (nI 2147483647)), (8, .int (nI 2147483647)), (7, .int (nI 2147483647)), (6, .int (nI 2147483647)), (5, .int (nI 2)), (4, .int (nI (dfO g0 a a))), (3, .int (nI 2147483647)), (0, .ref (ad 70)), (1, .int (nI a)), (2, .int (nI b))] → W p l e rm_Lr s m args below meth c H locs 142 852 Q (F0 m 572 ls [])) : ∀ (g : Nat → Nat → Int32) (z : Nat → Nat) (H : Heap) (locs : List Loc) (ls : Array Slot), SR g0 a t b g z → va_P D vwCl (rlW cA ad g z) H → va_D A (rlW cA ad g z) → va_S A s.heap H locs → lv_has ls 16 [(15, .int (nI 0)), (14, .int (nI 1)), (13, .int (nI 7)), (12, .int (nI 1)), (11, .int (nI 2147483647)), (10, .int (nI 2147483647)), (9, .int (nI 2147483647)), (8, .int (nI 2147483647)), (7, .int (nI 2147483647)), (6, .int (nI 2147483647)), (5, .int (nI 2)), (4, .int (nI (dfO g0 a a))), (3, .int (nI 2147483647)), (0, .ref (ad 70)), (1, .int (nI a)), (2, .int (nI b))] → W p l e rm_Lr s m args below meth c H locs 141 846 Q (F0 m 560 ls []) := by
  intro g z H locs ls hs hP hD hS hl
  refine lv_iconst (v := nI 1) C.hx C.hb dL_refuses_560 (by decide +kernel) ?_
  refine lv_goto (tgt := 565) C.hx C.hb dL_refuses_561 (by decide) ?_
  refine lv_istore (lv' := [(12, .int (nI 1)), (15, .int (nI 0)), (14, .int (nI 1)), (13, .int (nI 7)), (11, .int (nI 2147483647)), (10, .int (nI 2147483647)), (9, .int (nI 2147483647)), (8, .int (nI 2147483647)), (7, .int (nI 2147483647)), (6, .int (nI 2147483647)), (5, .int (nI 2)), (4, .int (nI (dfO g0 a a))), (3, .int (nI 2147483647)), (0, .ref (ad 70)), (1, .int (nI a)), (2, .int (nI b))]) C.hx C.hb dL_refuses_565 hl (by decide) rfl (fun ls hl => ?_)
  refine lv_iload C.hx C.hb dL_refuses_567 (lv_at hl 1 rfl) ?_
  refine lv_if_eq (tgt := 637) C.hx C.hb dL_refuses_569 (by decide) (fun _ => ?_) (fun c9 => absurd c9 (by decide +kernel))
  refine lv_iload C.hx C.hb dL_refuses_637 (lv_at hl 3 rfl) ?_
  refine lv_bipush (v := nI 15) C.hx C.hb dL_refuses_639 (by decide +kernel) ?_
  refine lv_icmp_eq (tgt := 658) C.hx C.hb dL_refuses_641 (by decide) (fun c9 => absurd c9 (by decide +kernel)) (fun _ => ?_)
  refine lv_iload C.hx C.hb dL_refuses_644 (lv_at hl 3 rfl) ?_
  refine lv_bipush (v := nI 16) C.hx C.hb dL_refuses_646 (by decide +kernel) ?_
  refine lv_icmp_eq (tgt := 658) C.hx C.hb dL_refuses_648 (by decide) (fun c9 => absurd c9 (by decide +kernel)) (fun _ => ?_)
  refine lv_iload C.hx C.hb dL_refuses_651 (lv_at hl 3 rfl) ?_
  refine lv_bipush (v := nI 18) C.hx C.hb dL_refuses_653 (by decide +kernel) ?_
  refine lv_icmp_ne (tgt := 681) C.hx C.hb dL_refuses_655 (by decide) (fun _ => ?_) (fun c9 => absurd c9 (by decide +kernel))
  refine lv_iinc (v := nI 8) (lv' := [(13, .int (nI 8)), (12, .int (nI 1)), (15, .int (nI 0)), (14, .int (nI 1)), (11, .int (nI 2147483647)), (10, .int (nI 2147483647)), (9, .int (nI 2147483647)), (8, .int (nI 2147483647)), (7, .int (nI 2147483647)), (6, .int (nI 2147483647)), (5, .int (nI 2)), (4, .int (nI (dfO g0 a a))), (3, .int (nI 2147483647)), (0, .ref (ad 70)), (1, .int (nI a)), (2, .int (nI b))]) C.hx C.hb dL_refuses_681 hl (k := 3) rfl (by decide +kernel) (by decide) rfl (fun ls hl => ?_)
  refine lv_goto (tgt := 459) C.hx C.hb dL_refuses_684 (by decide) ?_
  refine lv_iload C.hx C.hb dL_refuses_459 (lv_at hl 0 rfl) ?_
  refine lv_bipush (v := nI 20) C.hx C.hb dL_refuses_461 (by decide +kernel) ?_
  refine lv_icmp_ge (tgt := 687) C.hx C.hb dL_refuses_463 (by decide) (fun c9 => absurd c9 (by decide +kernel)) (fun _ => ?_)
  refine lv_iload C.hx C.hb dL_refuses_466 (lv_at hl 1 rfl) ?_
  refine lv_if_eq (tgt := 687) C.hx C.hb dL_refuses_468 (by decide) (fun c9 => absurd c9 (by decide +kernel)) (fun _ => ?_)
  refine lv_iload C.hx C.hb dL_refuses_471 (lv_at hl 0 rfl) ?_
  refine lv_iconst (v := nI 4) C.hx C.hb dL_refuses_473 (by decide +kernel) ?_
  refine lv_icmp_lt (tgt := 497) C.hx C.hb dL_refuses_474 (by decide) (fun c9 => absurd c9 (by decide +kernel)) (fun _ => ?_)
  refine lv_iload C.hx C.hb dL_refuses_477 (lv_at hl 0 rfl) ?_
  refine lv_iconst (v := nI 5) C.hx C.hb dL_refuses_479 (by decide +kernel) ?_
  refine lv_icmp_le (tgt := 490) C.hx C.hb dL_refuses_480 (by decide) (fun c9 => absurd c9 (by decide +kernel)) (fun _ => ?_)
  refine lv_iload C.hx C.hb dL_refuses_483 (lv_at hl 0 rfl) ?_
  refine lv_bipush (v := nI 15) C.hx C.hb dL_refuses_485 (by decide +kernel) ?_
  refine lv_icmp_lt (tgt := 497) C.hx C.hb dL_refuses_487 (by decide) (fun _ => ?_) (fun c9 => absurd c9 (by decide +kernel))
  refine lv_iconst (v := nI 1) C.hx C.hb dL_refuses_497 (by decide +kernel) ?_
  refine lv_goto (tgt := 502) C.hx C.hb dL_refuses_498 (by decide) ?_
  refine lv_istore (lv' := [(14, .int (nI 1)), (13, .int (nI 8)), (12, .int (nI 1)), (15, .int (nI 0)), (11, .int (nI 2147483647)), (10, .int (nI 2147483647)), (9, .int (nI 2147483647)), (8, .int (nI 2147483647)), (7, .int (nI 2147483647)), (6, .int (nI 2147483647)), (5, .int (nI 2)), (4, .int (nI (dfO g0 a a))), (3, .int (nI 2147483647)), (0, .ref (ad 70)), (1, .int (nI a)), (2, .int (nI b))]) C.hx C.hb dL_refuses_502 hl (by decide) rfl (fun ls hl => ?_)
  refine lv_iload C.hx C.hb dL_refuses_504 (lv_at hl 1 rfl) ?_
  refine lv_iconst (v := nI 3) C.hx C.hb dL_refuses_506 (by decide +kernel) ?_
  refine lv_icmp_eq (tgt := 531) C.hx C.hb dL_refuses_507 (by decide) (fun c9 => absurd c9 (by decide +kernel)) (fun _ => ?_)
  refine lv_iload C.hx C.hb dL_refuses_510 (lv_at hl 1 rfl) ?_
  refine lv_bipush (v := nI 7) C.hx C.hb dL_refuses_512 (by decide +kernel) ?_
  refine lv_icmp_le (tgt := 524) C.hx C.hb dL_refuses_514 (by decide) (fun c9 => absurd c9 (by decide +kernel)) (fun _ => ?_)
  refine lv_iload C.hx C.hb dL_refuses_517 (lv_at hl 1 rfl) ?_
  refine lv_bipush (v := nI 13) C.hx C.hb dL_refuses_519 (by decide +kernel) ?_
  refine lv_icmp_lt (tgt := 531) C.hx C.hb dL_refuses_521 (by decide) (fun _ => ?_) (fun c9 => absurd c9 (by decide +kernel))
  refine lv_iconst (v := nI 1) C.hx C.hb dL_refuses_531 (by decide +kernel) ?_
  refine lv_goto (tgt := 536) C.hx C.hb dL_refuses_532 (by decide) ?_
  refine lv_istore (lv' := [(15, .int (nI 1)), (14, .int (nI 1)), (13, .int (nI 8)), (12, .int (nI 1)), (11, .int (nI 2147483647)), (10, .int (nI 2147483647)), (9, .int (nI 2147483647)), (8, .int (nI 2147483647)), (7, .int (nI 2147483647)), (6, .int (nI 2147483647)), (5, .int (nI 2)), (4, .int (nI (dfO g0 a a))), (3, .int (nI 2147483647)), (0, .ref (ad 70)), (1, .int (nI a)), (2, .int (nI b))]) C.hx C.hb dL_refuses_536 hl (by decide) rfl (fun ls hl => ?_)
  refine lv_iload C.hx C.hb dL_refuses_538 (lv_at hl 1 rfl) ?_
  refine lv_if_eq (tgt := 567) C.hx C.hb dL_refuses_540 (by decide) (fun c9 => absurd c9 (by decide +kernel)) (fun _ => ?_)
  refine lv_aload_n C.hx C.hb dL_refuses_543 rfl (lv_at hl 13 rfl) ?_
  refine lv_iload C.hx C.hb dL_refuses_544 (lv_at hl 2 rfl) ?_
  refine lv_iload C.hx C.hb dL_refuses_546 (lv_at hl 7 rfl) ?_
  refine lv_iconst (v := nI 0) C.hx C.hb dL_refuses_548 (by decide +kernel) ?_
  refine lv_bipush (v := nI 99) C.hx C.hb dL_refuses_549 (by decide +kernel) ?_
  refine lv_iconst (v := nI 0) C.hx C.hb dL_refuses_551 (by decide +kernel) ?_
  refine q_cR (w := 8) (p0 := nI 2147483647) (p1 := nI 0) (p2 := nI 99) (p3 := nI 0) (r := -7000001) (c2 := 142) (s2 := 852) C hs hP hD hS (ri_seal C.htr (notr (by decide +kernel) (by omega))) hl rfl (Nat.le_of_ble_eq_true rfl) ⟨Nat.le_of_ble_eq_true rfl, Nat.le_of_ble_eq_true rfl⟩ ⟨Nat.le_of_ble_eq_true rfl, Nat.le_of_ble_eq_true rfl⟩ ⟨Nat.le_of_ble_eq_true rfl, Nat.le_of_ble_eq_true rfl⟩ dL_refuses_552 (fun g z H locs hs hP hD hS => ?_)
  refine lv_ldc (v := -7000001) C.hx C.hb C.hown (C.hT.use kk_L_90 args) dL_refuses_555 ?_
  refine lv_icmp_ne (tgt := 564) C.hx C.hb dL_refuses_557 (by decide) (fun c9 => absurd c9 (by decide +kernel)) (fun _ => ?_)
  refine lv_iconst (v := nI 1) C.hx C.hb dL_refuses_560 (by decide +kernel) ?_
  refine lv_goto (tgt := 565) C.hx C.hb dL_refuses_561 (by decide) ?_
  refine lv_istore (lv' := [(12, .int (nI 1)), (15, .int (nI 1)), (14, .int (nI 1)), (13, .int (nI 8)), (11, .int (nI 2147483647)), (10, .int (nI 2147483647)), (9, .int (nI 2147483647)), (8, .int (nI 2147483647)), (7, .int (nI 2147483647)), (6, .int (nI 2147483647)), (5, .int (nI 2)), (4, .int (nI (dfO g0 a a))), (3, .int (nI 2147483647)), (0, .ref (ad 70)), (1, .int (nI a)), (2, .int (nI b))]) C.hx C.hb dL_refuses_565 hl (by decide) rfl (fun ls hl => ?_)
  refine lv_iload C.hx C.hb dL_refuses_567 (lv_at hl 1 rfl) ?_
  refine lv_if_eq (tgt := 637) C.hx C.hb dL_refuses_569 (by decide) (fun c9 => absurd c9 (by decide +kernel)) (fun _ => ?_)
  exact kk g z H locs ls hs hP hD hS hl

set_option maxRecDepth 100000 in
set_option maxHeartbeats 4000000 in
theorem tf_63 {p : Program} {l : Launch} {e : Env} {s : State} {m : MethodId} {args : Array Value} {below : List Frame} {meth : Method} {c : Code} {D : va_G} {cA : ClassId} {A : Nat → Prop} {ad : Nat → Nat} {Q : State → Prop} {g0 : Nat → Nat → Int32} {a t b : Nat} (ha : a ≤ 16) (hb9 : b ≤ 40) (hab : 0 < a → 0 < b) (C : lcx p l s m c cL_refuses 16 D cA A) (kk : ∀ (g : Nat → Nat → Int32) (z : Nat → Nat) (H : Heap) (locs : List Loc) (ls : Array Slot), SR g0 a t b g z → va_P D vwCl (rlW cA ad g z) H → va_D A (rlW cA ad g z) → va_S A s.heap H locs → lv_has ls 16 [(12, .int (nI 1)), (15, .int (nI 1)), (14, .int (nI 1)), (13, .int (nI 8)), (11, .int (nI 2147483647)), (10, .int (nI 2147483647)), (9, .int (nI 2147483647)), (8, .int (nI 2147483647)), (7, .int (nI 2147483647)), (6, .int (nI 2147483647)), (5, .int (nI 2)), (4, .int (nI (dfO g0 a a))), (3, .int (nI 2147483647)), (0, .ref (ad 70)), (1, .int (nI a)), (2, .int (nI b))] → W p l e rm_Lr s m args below meth c H locs 145 870 Q (F0 m 630 ls [])) : ∀ (g : Nat → Nat → Int32) (z : Nat → Nat) (H : Heap) (locs : List Loc) (ls : Array Slot), SR g0 a t b g z → va_P D vwCl (rlW cA ad g z) H → va_D A (rlW cA ad g z) → va_S A s.heap H locs → lv_has ls 16 [(12, .int (nI 1)), (15, .int (nI 1)), (14, .int (nI 1)), (13, .int (nI 8)), (11, .int (nI 2147483647)), (10, .int (nI 2147483647)), (9, .int (nI 2147483647)), (8, .int (nI 2147483647)), (7, .int (nI 2147483647)), (6, .int (nI 2147483647)), (5, .int (nI 2)), (4, .int (nI (dfO g0 a a))), (3, .int (nI 2147483647)), (0, .ref (ad 70)), (1, .int (nI a)), (2, .int (nI b))] → W p l e rm_Lr s m args below meth c H locs 142 852 Q (F0 m 572 ls []) := by
  intro g z H locs ls hs hP hD hS hl
  refine lv_iload C.hx C.hb dL_refuses_572 (lv_at hl 0 rfl) ?_
  refine lv_if_eq (tgt := 634) C.hx C.hb dL_refuses_574 (by decide) (fun c9 => absurd c9 (by decide +kernel)) (fun _ => ?_)
  refine lv_aload_n C.hx C.hb dL_refuses_577 rfl (lv_at hl 13 rfl) ?_
  refine lv_iload C.hx C.hb dL_refuses_578 (lv_at hl 3 rfl) ?_
  refine lv_iconst (v := nI 0) C.hx C.hb dL_refuses_580 (by decide +kernel) ?_
  refine lv_iload C.hx C.hb dL_refuses_581 (lv_at hl 7 rfl) ?_
  refine lv_bipush (v := nI 99) C.hx C.hb dL_refuses_583 (by decide +kernel) ?_
  refine lv_iconst (v := nI 0) C.hx C.hb dL_refuses_585 (by decide +kernel) ?_
  refine q_cR (w := 8) (p0 := nI 0) (p1 := nI 2147483647) (p2 := nI 99) (p3 := nI 0) (r := -7000001) (c2 := 143) (s2 := 858) C hs hP hD hS (rj_seal C.htr (notr (by decide +kernel) (by omega))) hl rfl (Nat.le_of_ble_eq_true rfl) ⟨Nat.le_of_ble_eq_true rfl, Nat.le_of_ble_eq_true rfl⟩ ⟨Nat.le_of_ble_eq_true rfl, Nat.le_of_ble_eq_true rfl⟩ ⟨Nat.le_of_ble_eq_true rfl, Nat.le_of_ble_eq_true rfl⟩ dL_refuses_586 (fun g z H locs hs hP hD hS => ?_)
  refine lv_ldc (v := -7000001) C.hx C.hb C.hown (C.hT.use kk_L_90 args) dL_refuses_589 ?_
  refine lv_icmp_ne (tgt := 634) C.hx C.hb dL_refuses_591 (by decide) (fun c9 => absurd c9 (by decide +kernel)) (fun _ => ?_)
  refine lv_aload_n C.hx C.hb dL_refuses_594 rfl (lv_at hl 13 rfl) ?_
  refine lv_iload C.hx C.hb dL_refuses_595 (lv_at hl 3 rfl) ?_
  refine lv_iload C.hx C.hb dL_refuses_597 (lv_at hl 7 rfl) ?_
  refine lv_iload C.hx C.hb dL_refuses_599 (lv_at hl 7 rfl) ?_
  refine lv_iconst (v := nI 0) C.hx C.hb dL_refuses_601 (by decide +kernel) ?_
  refine lv_iconst (v := nI 0) C.hx C.hb dL_refuses_602 (by decide +kernel) ?_
  refine q_cR (w := 8) (p0 := nI 2147483647) (p1 := nI 2147483647) (p2 := nI 0) (p3 := nI 0) (r := -7000001) (c2 := 144) (s2 := 864) C hs hP hD hS (ri_seal C.htr (notr (by decide +kernel) (by omega))) hl rfl (Nat.le_of_ble_eq_true rfl) ⟨Nat.le_of_ble_eq_true rfl, Nat.le_of_ble_eq_true rfl⟩ ⟨Nat.le_of_ble_eq_true rfl, Nat.le_of_ble_eq_true rfl⟩ ⟨Nat.le_of_ble_eq_true rfl, Nat.le_of_ble_eq_true rfl⟩ dL_refuses_603 (fun g z H locs hs hP hD hS => ?_)
  refine lv_ldc (v := -7000001) C.hx C.hb C.hown (C.hT.use kk_L_90 args) dL_refuses_606 ?_
  refine lv_icmp_ne (tgt := 634) C.hx C.hb dL_refuses_608 (by decide) (fun c9 => absurd c9 (by decide +kernel)) (fun _ => ?_)
  refine lv_iload_n C.hx C.hb dL_refuses_611 rfl (lv_at hl 14 rfl) ?_
  refine lv_if_eq (tgt := 630) C.hx C.hb dL_refuses_612 (by decide) (fun c9 => ?_) (fun c9 => ?_)
  · refine W.widen (k := 145) (n := 870) (Nat.le_of_ble_eq_true rfl) (Nat.le_of_ble_eq_true rfl) ?_
    exact kk g z H locs ls hs hP hD hS hl
  · have ha0 : 0 < a := Nat.pos_of_ne_zero (fun q => c9 (by rw [q]; rfl))
    have hb0 : 0 < b := hab ha0
    refine lv_aload_n C.hx C.hb dL_refuses_615 rfl (lv_at hl 13 rfl) ?_
    refine lv_iload C.hx C.hb dL_refuses_616 (lv_at hl 3 rfl) ?_
    refine lv_iconst (v := nI 0) C.hx C.hb dL_refuses_618 (by decide +kernel) ?_
    refine lv_iconst (v := nI 0) C.hx C.hb dL_refuses_619 (by decide +kernel) ?_
    refine lv_iconst (v := nI 0) C.hx C.hb dL_refuses_620 (by decide +kernel) ?_
    refine lv_iconst (v := nI 0) C.hx C.hb dL_refuses_621 (by decide +kernel) ?_
    refine q_cR (w := 8) (p0 := nI 0) (p1 := nI 0) (p2 := nI 0) (p3 := nI 0) (r := -7000002) (c2 := 145) (s2 := 870) C hs hP hD hS (rs_seal C.htr (q_r_nI (by omega))) hl rfl (Nat.le_of_ble_eq_true rfl) ⟨Nat.le_of_ble_eq_true rfl, Nat.le_of_ble_eq_true rfl⟩ ⟨Nat.le_of_ble_eq_true rfl, Nat.le_of_ble_eq_true rfl⟩ ⟨Nat.le_of_ble_eq_true rfl, Nat.le_of_ble_eq_true rfl⟩ dL_refuses_622 (fun g z H locs hs hP hD hS => ?_)
    refine lv_ldc (v := -7000002) C.hx C.hb C.hown (C.hT.use kk_L_93 args) dL_refuses_625 ?_
    refine lv_icmp_ne (tgt := 634) C.hx C.hb dL_refuses_627 (by decide) (fun c9 => absurd c9 (by decide +kernel)) (fun _ => ?_)
    exact kk g z H locs ls hs hP hD hS hl

set_option maxRecDepth 100000 in
set_option maxHeartbeats 4000000 in
theorem tf_64 {p : Program} {l : Launch} {e : Env} {s : State} {m : MethodId} {args : Array Value} {below : List Frame} {meth : Method} {c : Code} {D : va_G} {cA : ClassId} {A : Nat → Prop} {ad : Nat → Nat} {Q : State → Prop} {g0 : Nat → Nat → Int32} {a t b : Nat} (ha : a ≤ 16) (hb9 : b ≤ 40) (hab : 0 < a → 0 < b) (C : lcx p l s m c cL_refuses 16 D cA A) (kk : ∀ (g : Nat → Nat → Int32) (z : Nat → Nat) (H : Heap) (locs : List Loc) (ls : Array Slot), SR g0 a t b g z → va_P D vwCl (rlW cA ad g z) H → va_D A (rlW cA ad g z) → va_S A s.heap H locs → lv_has ls 16 [(12, .int (nI 1)), (15, .int (nI 1)), (14, .int (nI 1)), (13, .int (nI 9)), (11, .int (nI 2147483647)), (10, .int (nI 2147483647)), (9, .int (nI 2147483647)), (8, .int (nI 2147483647)), (7, .int (nI 2147483647)), (6, .int (nI 2147483647)), (5, .int (nI 2)), (4, .int (nI (dfO g0 a a))), (3, .int (nI 2147483647)), (0, .ref (ad 70)), (1, .int (nI a)), (2, .int (nI b))] → W p l e rm_Lr s m args below meth c H locs 146 876 Q (F0 m 577 ls [])) : ∀ (g : Nat → Nat → Int32) (z : Nat → Nat) (H : Heap) (locs : List Loc) (ls : Array Slot), SR g0 a t b g z → va_P D vwCl (rlW cA ad g z) H → va_D A (rlW cA ad g z) → va_S A s.heap H locs → lv_has ls 16 [(12, .int (nI 1)), (15, .int (nI 1)), (14, .int (nI 1)), (13, .int (nI 8)), (11, .int (nI 2147483647)), (10, .int (nI 2147483647)), (9, .int (nI 2147483647)), (8, .int (nI 2147483647)), (7, .int (nI 2147483647)), (6, .int (nI 2147483647)), (5, .int (nI 2)), (4, .int (nI (dfO g0 a a))), (3, .int (nI 2147483647)), (0, .ref (ad 70)), (1, .int (nI a)), (2, .int (nI b))] → W p l e rm_Lr s m args below meth c H locs 145 870 Q (F0 m 630 ls []) := by
  intro g z H locs ls hs hP hD hS hl
  refine lv_iconst (v := nI 1) C.hx C.hb dL_refuses_630 (by decide +kernel) ?_
  refine lv_goto (tgt := 635) C.hx C.hb dL_refuses_631 (by decide) ?_
  refine lv_istore (lv' := [(12, .int (nI 1)), (15, .int (nI 1)), (14, .int (nI 1)), (13, .int (nI 8)), (11, .int (nI 2147483647)), (10, .int (nI 2147483647)), (9, .int (nI 2147483647)), (8, .int (nI 2147483647)), (7, .int (nI 2147483647)), (6, .int (nI 2147483647)), (5, .int (nI 2)), (4, .int (nI (dfO g0 a a))), (3, .int (nI 2147483647)), (0, .ref (ad 70)), (1, .int (nI a)), (2, .int (nI b))]) C.hx C.hb dL_refuses_635 hl (by decide) rfl (fun ls hl => ?_)
  refine lv_iload C.hx C.hb dL_refuses_637 (lv_at hl 3 rfl) ?_
  refine lv_bipush (v := nI 15) C.hx C.hb dL_refuses_639 (by decide +kernel) ?_
  refine lv_icmp_eq (tgt := 658) C.hx C.hb dL_refuses_641 (by decide) (fun c9 => absurd c9 (by decide +kernel)) (fun _ => ?_)
  refine lv_iload C.hx C.hb dL_refuses_644 (lv_at hl 3 rfl) ?_
  refine lv_bipush (v := nI 16) C.hx C.hb dL_refuses_646 (by decide +kernel) ?_
  refine lv_icmp_eq (tgt := 658) C.hx C.hb dL_refuses_648 (by decide) (fun c9 => absurd c9 (by decide +kernel)) (fun _ => ?_)
  refine lv_iload C.hx C.hb dL_refuses_651 (lv_at hl 3 rfl) ?_
  refine lv_bipush (v := nI 18) C.hx C.hb dL_refuses_653 (by decide +kernel) ?_
  refine lv_icmp_ne (tgt := 681) C.hx C.hb dL_refuses_655 (by decide) (fun _ => ?_) (fun c9 => absurd c9 (by decide +kernel))
  refine lv_iinc (v := nI 9) (lv' := [(13, .int (nI 9)), (12, .int (nI 1)), (15, .int (nI 1)), (14, .int (nI 1)), (11, .int (nI 2147483647)), (10, .int (nI 2147483647)), (9, .int (nI 2147483647)), (8, .int (nI 2147483647)), (7, .int (nI 2147483647)), (6, .int (nI 2147483647)), (5, .int (nI 2)), (4, .int (nI (dfO g0 a a))), (3, .int (nI 2147483647)), (0, .ref (ad 70)), (1, .int (nI a)), (2, .int (nI b))]) C.hx C.hb dL_refuses_681 hl (k := 3) rfl (by decide +kernel) (by decide) rfl (fun ls hl => ?_)
  refine lv_goto (tgt := 459) C.hx C.hb dL_refuses_684 (by decide) ?_
  refine lv_iload C.hx C.hb dL_refuses_459 (lv_at hl 0 rfl) ?_
  refine lv_bipush (v := nI 20) C.hx C.hb dL_refuses_461 (by decide +kernel) ?_
  refine lv_icmp_ge (tgt := 687) C.hx C.hb dL_refuses_463 (by decide) (fun c9 => absurd c9 (by decide +kernel)) (fun _ => ?_)
  refine lv_iload C.hx C.hb dL_refuses_466 (lv_at hl 1 rfl) ?_
  refine lv_if_eq (tgt := 687) C.hx C.hb dL_refuses_468 (by decide) (fun c9 => absurd c9 (by decide +kernel)) (fun _ => ?_)
  refine lv_iload C.hx C.hb dL_refuses_471 (lv_at hl 0 rfl) ?_
  refine lv_iconst (v := nI 4) C.hx C.hb dL_refuses_473 (by decide +kernel) ?_
  refine lv_icmp_lt (tgt := 497) C.hx C.hb dL_refuses_474 (by decide) (fun c9 => absurd c9 (by decide +kernel)) (fun _ => ?_)
  refine lv_iload C.hx C.hb dL_refuses_477 (lv_at hl 0 rfl) ?_
  refine lv_iconst (v := nI 5) C.hx C.hb dL_refuses_479 (by decide +kernel) ?_
  refine lv_icmp_le (tgt := 490) C.hx C.hb dL_refuses_480 (by decide) (fun c9 => absurd c9 (by decide +kernel)) (fun _ => ?_)
  refine lv_iload C.hx C.hb dL_refuses_483 (lv_at hl 0 rfl) ?_
  refine lv_bipush (v := nI 15) C.hx C.hb dL_refuses_485 (by decide +kernel) ?_
  refine lv_icmp_lt (tgt := 497) C.hx C.hb dL_refuses_487 (by decide) (fun _ => ?_) (fun c9 => absurd c9 (by decide +kernel))
  refine lv_iconst (v := nI 1) C.hx C.hb dL_refuses_497 (by decide +kernel) ?_
  refine lv_goto (tgt := 502) C.hx C.hb dL_refuses_498 (by decide) ?_
  refine lv_istore (lv' := [(14, .int (nI 1)), (13, .int (nI 9)), (12, .int (nI 1)), (15, .int (nI 1)), (11, .int (nI 2147483647)), (10, .int (nI 2147483647)), (9, .int (nI 2147483647)), (8, .int (nI 2147483647)), (7, .int (nI 2147483647)), (6, .int (nI 2147483647)), (5, .int (nI 2)), (4, .int (nI (dfO g0 a a))), (3, .int (nI 2147483647)), (0, .ref (ad 70)), (1, .int (nI a)), (2, .int (nI b))]) C.hx C.hb dL_refuses_502 hl (by decide) rfl (fun ls hl => ?_)
  refine lv_iload C.hx C.hb dL_refuses_504 (lv_at hl 1 rfl) ?_
  refine lv_iconst (v := nI 3) C.hx C.hb dL_refuses_506 (by decide +kernel) ?_
  refine lv_icmp_eq (tgt := 531) C.hx C.hb dL_refuses_507 (by decide) (fun c9 => absurd c9 (by decide +kernel)) (fun _ => ?_)
  refine lv_iload C.hx C.hb dL_refuses_510 (lv_at hl 1 rfl) ?_
  refine lv_bipush (v := nI 7) C.hx C.hb dL_refuses_512 (by decide +kernel) ?_
  refine lv_icmp_le (tgt := 524) C.hx C.hb dL_refuses_514 (by decide) (fun c9 => absurd c9 (by decide +kernel)) (fun _ => ?_)
  refine lv_iload C.hx C.hb dL_refuses_517 (lv_at hl 1 rfl) ?_
  refine lv_bipush (v := nI 13) C.hx C.hb dL_refuses_519 (by decide +kernel) ?_
  refine lv_icmp_lt (tgt := 531) C.hx C.hb dL_refuses_521 (by decide) (fun _ => ?_) (fun c9 => absurd c9 (by decide +kernel))
  refine lv_iconst (v := nI 1) C.hx C.hb dL_refuses_531 (by decide +kernel) ?_
  refine lv_goto (tgt := 536) C.hx C.hb dL_refuses_532 (by decide) ?_
  refine lv_istore (lv' := [(15, .int (nI 1)), (14, .int (nI 1)), (13, .int (nI 9)), (12, .int (nI 1)), (11, .int (nI 2147483647)), (10, .int (nI 2147483647)), (9, .int (nI 2147483647)), (8, .int (nI 2147483647)), (7, .int (nI 2147483647)), (6, .int (nI 2147483647)), (5, .int (nI 2)), (4, .int (nI (dfO g0 a a))), (3, .int (nI 2147483647)), (0, .ref (ad 70)), (1, .int (nI a)), (2, .int (nI b))]) C.hx C.hb dL_refuses_536 hl (by decide) rfl (fun ls hl => ?_)
  refine lv_iload C.hx C.hb dL_refuses_538 (lv_at hl 1 rfl) ?_
  refine lv_if_eq (tgt := 567) C.hx C.hb dL_refuses_540 (by decide) (fun c9 => absurd c9 (by decide +kernel)) (fun _ => ?_)
  refine lv_aload_n C.hx C.hb dL_refuses_543 rfl (lv_at hl 13 rfl) ?_
  refine lv_iload C.hx C.hb dL_refuses_544 (lv_at hl 2 rfl) ?_
  refine lv_iload C.hx C.hb dL_refuses_546 (lv_at hl 7 rfl) ?_
  refine lv_iconst (v := nI 0) C.hx C.hb dL_refuses_548 (by decide +kernel) ?_
  refine lv_bipush (v := nI 99) C.hx C.hb dL_refuses_549 (by decide +kernel) ?_
  refine lv_iconst (v := nI 0) C.hx C.hb dL_refuses_551 (by decide +kernel) ?_
  refine q_cR (w := 9) (p0 := nI 2147483647) (p1 := nI 0) (p2 := nI 99) (p3 := nI 0) (r := -7000001) (c2 := 146) (s2 := 876) C hs hP hD hS (ri_block C.htr (notr (by decide +kernel) (by omega))) hl rfl (Nat.le_of_ble_eq_true rfl) ⟨Nat.le_of_ble_eq_true rfl, Nat.le_of_ble_eq_true rfl⟩ ⟨Nat.le_of_ble_eq_true rfl, Nat.le_of_ble_eq_true rfl⟩ ⟨Nat.le_of_ble_eq_true rfl, Nat.le_of_ble_eq_true rfl⟩ dL_refuses_552 (fun g z H locs hs hP hD hS => ?_)
  refine lv_ldc (v := -7000001) C.hx C.hb C.hown (C.hT.use kk_L_90 args) dL_refuses_555 ?_
  refine lv_icmp_ne (tgt := 564) C.hx C.hb dL_refuses_557 (by decide) (fun c9 => absurd c9 (by decide +kernel)) (fun _ => ?_)
  refine lv_iconst (v := nI 1) C.hx C.hb dL_refuses_560 (by decide +kernel) ?_
  refine lv_goto (tgt := 565) C.hx C.hb dL_refuses_561 (by decide) ?_
  refine lv_istore (lv' := [(12, .int (nI 1)), (15, .int (nI 1)), (14, .int (nI 1)), (13, .int (nI 9)), (11, .int (nI 2147483647)), (10, .int (nI 2147483647)), (9, .int (nI 2147483647)), (8, .int (nI 2147483647)), (7, .int (nI 2147483647)), (6, .int (nI 2147483647)), (5, .int (nI 2)), (4, .int (nI (dfO g0 a a))), (3, .int (nI 2147483647)), (0, .ref (ad 70)), (1, .int (nI a)), (2, .int (nI b))]) C.hx C.hb dL_refuses_565 hl (by decide) rfl (fun ls hl => ?_)
  refine lv_iload C.hx C.hb dL_refuses_567 (lv_at hl 1 rfl) ?_
  refine lv_if_eq (tgt := 637) C.hx C.hb dL_refuses_569 (by decide) (fun c9 => absurd c9 (by decide +kernel)) (fun _ => ?_)
  refine lv_iload C.hx C.hb dL_refuses_572 (lv_at hl 0 rfl) ?_
  refine lv_if_eq (tgt := 634) C.hx C.hb dL_refuses_574 (by decide) (fun c9 => absurd c9 (by decide +kernel)) (fun _ => ?_)
  exact kk g z H locs ls hs hP hD hS hl

set_option maxRecDepth 100000 in
set_option maxHeartbeats 4000000 in
theorem tf_65 {p : Program} {l : Launch} {e : Env} {s : State} {m : MethodId} {args : Array Value} {below : List Frame} {meth : Method} {c : Code} {D : va_G} {cA : ClassId} {A : Nat → Prop} {ad : Nat → Nat} {Q : State → Prop} {g0 : Nat → Nat → Int32} {a t b : Nat} (ha : a ≤ 16) (hb9 : b ≤ 40) (hab : 0 < a → 0 < b) (C : lcx p l s m c cL_refuses 16 D cA A) (kk : ∀ (g : Nat → Nat → Int32) (z : Nat → Nat) (H : Heap) (locs : List Loc) (ls : Array Slot), SR g0 a t b g z → va_P D vwCl (rlW cA ad g z) H → va_D A (rlW cA ad g z) → va_S A s.heap H locs → lv_has ls 16 [(12, .int (nI 1)), (15, .int (nI 1)), (14, .int (nI 1)), (13, .int (nI 9)), (11, .int (nI 2147483647)), (10, .int (nI 2147483647)), (9, .int (nI 2147483647)), (8, .int (nI 2147483647)), (7, .int (nI 2147483647)), (6, .int (nI 2147483647)), (5, .int (nI 2)), (4, .int (nI (dfO g0 a a))), (3, .int (nI 2147483647)), (0, .ref (ad 70)), (1, .int (nI a)), (2, .int (nI b))] → W p l e rm_Lr s m args below meth c H locs 149 894 Q (F0 m 630 ls [])) : ∀ (g : Nat → Nat → Int32) (z : Nat → Nat) (H : Heap) (locs : List Loc) (ls : Array Slot), SR g0 a t b g z → va_P D vwCl (rlW cA ad g z) H → va_D A (rlW cA ad g z) → va_S A s.heap H locs → lv_has ls 16 [(12, .int (nI 1)), (15, .int (nI 1)), (14, .int (nI 1)), (13, .int (nI 9)), (11, .int (nI 2147483647)), (10, .int (nI 2147483647)), (9, .int (nI 2147483647)), (8, .int (nI 2147483647)), (7, .int (nI 2147483647)), (6, .int (nI 2147483647)), (5, .int (nI 2)), (4, .int (nI (dfO g0 a a))), (3, .int (nI 2147483647)), (0, .ref (ad 70)), (1, .int (nI a)), (2, .int (nI b))] → W p l e rm_Lr s m args below meth c H locs 146 876 Q (F0 m 577 ls []) := by
  intro g z H locs ls hs hP hD hS hl
  refine lv_aload_n C.hx C.hb dL_refuses_577 rfl (lv_at hl 13 rfl) ?_
  refine lv_iload C.hx C.hb dL_refuses_578 (lv_at hl 3 rfl) ?_
  refine lv_iconst (v := nI 0) C.hx C.hb dL_refuses_580 (by decide +kernel) ?_
  refine lv_iload C.hx C.hb dL_refuses_581 (lv_at hl 7 rfl) ?_
  refine lv_bipush (v := nI 99) C.hx C.hb dL_refuses_583 (by decide +kernel) ?_
  refine lv_iconst (v := nI 0) C.hx C.hb dL_refuses_585 (by decide +kernel) ?_
  refine q_cR (w := 9) (p0 := nI 0) (p1 := nI 2147483647) (p2 := nI 99) (p3 := nI 0) (r := -7000001) (c2 := 147) (s2 := 882) C hs hP hD hS (rj_block C.htr (notr (by decide +kernel) (by omega))) hl rfl (Nat.le_of_ble_eq_true rfl) ⟨Nat.le_of_ble_eq_true rfl, Nat.le_of_ble_eq_true rfl⟩ ⟨Nat.le_of_ble_eq_true rfl, Nat.le_of_ble_eq_true rfl⟩ ⟨Nat.le_of_ble_eq_true rfl, Nat.le_of_ble_eq_true rfl⟩ dL_refuses_586 (fun g z H locs hs hP hD hS => ?_)
  refine lv_ldc (v := -7000001) C.hx C.hb C.hown (C.hT.use kk_L_90 args) dL_refuses_589 ?_
  refine lv_icmp_ne (tgt := 634) C.hx C.hb dL_refuses_591 (by decide) (fun c9 => absurd c9 (by decide +kernel)) (fun _ => ?_)
  refine lv_aload_n C.hx C.hb dL_refuses_594 rfl (lv_at hl 13 rfl) ?_
  refine lv_iload C.hx C.hb dL_refuses_595 (lv_at hl 3 rfl) ?_
  refine lv_iload C.hx C.hb dL_refuses_597 (lv_at hl 7 rfl) ?_
  refine lv_iload C.hx C.hb dL_refuses_599 (lv_at hl 7 rfl) ?_
  refine lv_iconst (v := nI 0) C.hx C.hb dL_refuses_601 (by decide +kernel) ?_
  refine lv_iconst (v := nI 0) C.hx C.hb dL_refuses_602 (by decide +kernel) ?_
  refine q_cR (w := 9) (p0 := nI 2147483647) (p1 := nI 2147483647) (p2 := nI 0) (p3 := nI 0) (r := -7000001) (c2 := 148) (s2 := 888) C hs hP hD hS (ri_block C.htr (notr (by decide +kernel) (by omega))) hl rfl (Nat.le_of_ble_eq_true rfl) ⟨Nat.le_of_ble_eq_true rfl, Nat.le_of_ble_eq_true rfl⟩ ⟨Nat.le_of_ble_eq_true rfl, Nat.le_of_ble_eq_true rfl⟩ ⟨Nat.le_of_ble_eq_true rfl, Nat.le_of_ble_eq_true rfl⟩ dL_refuses_603 (fun g z H locs hs hP hD hS => ?_)
  refine lv_ldc (v := -7000001) C.hx C.hb C.hown (C.hT.use kk_L_90 args) dL_refuses_606 ?_
  refine lv_icmp_ne (tgt := 634) C.hx C.hb dL_refuses_608 (by decide) (fun c9 => absurd c9 (by decide +kernel)) (fun _ => ?_)
  refine lv_iload_n C.hx C.hb dL_refuses_611 rfl (lv_at hl 14 rfl) ?_
  refine lv_if_eq (tgt := 630) C.hx C.hb dL_refuses_612 (by decide) (fun c9 => ?_) (fun c9 => ?_)
  · refine W.widen (k := 149) (n := 894) (Nat.le_of_ble_eq_true rfl) (Nat.le_of_ble_eq_true rfl) ?_
    exact kk g z H locs ls hs hP hD hS hl
  · have ha0 : 0 < a := Nat.pos_of_ne_zero (fun q => c9 (by rw [q]; rfl))
    have hb0 : 0 < b := hab ha0
    refine lv_aload_n C.hx C.hb dL_refuses_615 rfl (lv_at hl 13 rfl) ?_
    refine lv_iload C.hx C.hb dL_refuses_616 (lv_at hl 3 rfl) ?_
    refine lv_iconst (v := nI 0) C.hx C.hb dL_refuses_618 (by decide +kernel) ?_
    refine lv_iconst (v := nI 0) C.hx C.hb dL_refuses_619 (by decide +kernel) ?_
    refine lv_iconst (v := nI 0) C.hx C.hb dL_refuses_620 (by decide +kernel) ?_
    refine lv_iconst (v := nI 0) C.hx C.hb dL_refuses_621 (by decide +kernel) ?_
    refine q_cR (w := 9) (p0 := nI 0) (p1 := nI 0) (p2 := nI 0) (p3 := nI 0) (r := -7000002) (c2 := 149) (s2 := 894) C hs hP hD hS (rs_block C.htr (q_r_nI (by omega))) hl rfl (Nat.le_of_ble_eq_true rfl) ⟨Nat.le_of_ble_eq_true rfl, Nat.le_of_ble_eq_true rfl⟩ ⟨Nat.le_of_ble_eq_true rfl, Nat.le_of_ble_eq_true rfl⟩ ⟨Nat.le_of_ble_eq_true rfl, Nat.le_of_ble_eq_true rfl⟩ dL_refuses_622 (fun g z H locs hs hP hD hS => ?_)
    refine lv_ldc (v := -7000002) C.hx C.hb C.hown (C.hT.use kk_L_93 args) dL_refuses_625 ?_
    refine lv_icmp_ne (tgt := 634) C.hx C.hb dL_refuses_627 (by decide) (fun c9 => absurd c9 (by decide +kernel)) (fun _ => ?_)
    exact kk g z H locs ls hs hP hD hS hl

set_option maxRecDepth 100000 in
set_option maxHeartbeats 4000000 in
theorem tf_66 {p : Program} {l : Launch} {e : Env} {s : State} {m : MethodId} {args : Array Value} {below : List Frame} {meth : Method} {c : Code} {D : va_G} {cA : ClassId} {A : Nat → Prop} {ad : Nat → Nat} {Q : State → Prop} {g0 : Nat → Nat → Int32} {a t b : Nat} (ha : a ≤ 16) (hb9 : b ≤ 40) (hab : 0 < a → 0 < b) (C : lcx p l s m c cL_refuses 16 D cA A) (kk : ∀ (g : Nat → Nat → Int32) (z : Nat → Nat) (H : Heap) (locs : List Loc) (ls : Array Slot), SR g0 a t b g z → va_P D vwCl (rlW cA ad g z) H → va_D A (rlW cA ad g z) → va_S A s.heap H locs → lv_has ls 16 [(12, .int (nI 1)), (15, .int (nI 1)), (14, .int (nI 1)), (13, .int (nI 10)), (11, .int (nI 2147483647)), (10, .int (nI 2147483647)), (9, .int (nI 2147483647)), (8, .int (nI 2147483647)), (7, .int (nI 2147483647)), (6, .int (nI 2147483647)), (5, .int (nI 2)), (4, .int (nI (dfO g0 a a))), (3, .int (nI 2147483647)), (0, .ref (ad 70)), (1, .int (nI a)), (2, .int (nI b))] → W p l e rm_Lr s m args below meth c H locs 150 900 Q (F0 m 577 ls [])) : ∀ (g : Nat → Nat → Int32) (z : Nat → Nat) (H : Heap) (locs : List Loc) (ls : Array Slot), SR g0 a t b g z → va_P D vwCl (rlW cA ad g z) H → va_D A (rlW cA ad g z) → va_S A s.heap H locs → lv_has ls 16 [(12, .int (nI 1)), (15, .int (nI 1)), (14, .int (nI 1)), (13, .int (nI 9)), (11, .int (nI 2147483647)), (10, .int (nI 2147483647)), (9, .int (nI 2147483647)), (8, .int (nI 2147483647)), (7, .int (nI 2147483647)), (6, .int (nI 2147483647)), (5, .int (nI 2)), (4, .int (nI (dfO g0 a a))), (3, .int (nI 2147483647)), (0, .ref (ad 70)), (1, .int (nI a)), (2, .int (nI b))] → W p l e rm_Lr s m args below meth c H locs 149 894 Q (F0 m 630 ls []) := by
  intro g z H locs ls hs hP hD hS hl
  refine lv_iconst (v := nI 1) C.hx C.hb dL_refuses_630 (by decide +kernel) ?_
  refine lv_goto (tgt := 635) C.hx C.hb dL_refuses_631 (by decide) ?_
  refine lv_istore (lv' := [(12, .int (nI 1)), (15, .int (nI 1)), (14, .int (nI 1)), (13, .int (nI 9)), (11, .int (nI 2147483647)), (10, .int (nI 2147483647)), (9, .int (nI 2147483647)), (8, .int (nI 2147483647)), (7, .int (nI 2147483647)), (6, .int (nI 2147483647)), (5, .int (nI 2)), (4, .int (nI (dfO g0 a a))), (3, .int (nI 2147483647)), (0, .ref (ad 70)), (1, .int (nI a)), (2, .int (nI b))]) C.hx C.hb dL_refuses_635 hl (by decide) rfl (fun ls hl => ?_)
  refine lv_iload C.hx C.hb dL_refuses_637 (lv_at hl 3 rfl) ?_
  refine lv_bipush (v := nI 15) C.hx C.hb dL_refuses_639 (by decide +kernel) ?_
  refine lv_icmp_eq (tgt := 658) C.hx C.hb dL_refuses_641 (by decide) (fun c9 => absurd c9 (by decide +kernel)) (fun _ => ?_)
  refine lv_iload C.hx C.hb dL_refuses_644 (lv_at hl 3 rfl) ?_
  refine lv_bipush (v := nI 16) C.hx C.hb dL_refuses_646 (by decide +kernel) ?_
  refine lv_icmp_eq (tgt := 658) C.hx C.hb dL_refuses_648 (by decide) (fun c9 => absurd c9 (by decide +kernel)) (fun _ => ?_)
  refine lv_iload C.hx C.hb dL_refuses_651 (lv_at hl 3 rfl) ?_
  refine lv_bipush (v := nI 18) C.hx C.hb dL_refuses_653 (by decide +kernel) ?_
  refine lv_icmp_ne (tgt := 681) C.hx C.hb dL_refuses_655 (by decide) (fun _ => ?_) (fun c9 => absurd c9 (by decide +kernel))
  refine lv_iinc (v := nI 10) (lv' := [(13, .int (nI 10)), (12, .int (nI 1)), (15, .int (nI 1)), (14, .int (nI 1)), (11, .int (nI 2147483647)), (10, .int (nI 2147483647)), (9, .int (nI 2147483647)), (8, .int (nI 2147483647)), (7, .int (nI 2147483647)), (6, .int (nI 2147483647)), (5, .int (nI 2)), (4, .int (nI (dfO g0 a a))), (3, .int (nI 2147483647)), (0, .ref (ad 70)), (1, .int (nI a)), (2, .int (nI b))]) C.hx C.hb dL_refuses_681 hl (k := 3) rfl (by decide +kernel) (by decide) rfl (fun ls hl => ?_)
  refine lv_goto (tgt := 459) C.hx C.hb dL_refuses_684 (by decide) ?_
  refine lv_iload C.hx C.hb dL_refuses_459 (lv_at hl 0 rfl) ?_
  refine lv_bipush (v := nI 20) C.hx C.hb dL_refuses_461 (by decide +kernel) ?_
  refine lv_icmp_ge (tgt := 687) C.hx C.hb dL_refuses_463 (by decide) (fun c9 => absurd c9 (by decide +kernel)) (fun _ => ?_)
  refine lv_iload C.hx C.hb dL_refuses_466 (lv_at hl 1 rfl) ?_
  refine lv_if_eq (tgt := 687) C.hx C.hb dL_refuses_468 (by decide) (fun c9 => absurd c9 (by decide +kernel)) (fun _ => ?_)
  refine lv_iload C.hx C.hb dL_refuses_471 (lv_at hl 0 rfl) ?_
  refine lv_iconst (v := nI 4) C.hx C.hb dL_refuses_473 (by decide +kernel) ?_
  refine lv_icmp_lt (tgt := 497) C.hx C.hb dL_refuses_474 (by decide) (fun c9 => absurd c9 (by decide +kernel)) (fun _ => ?_)
  refine lv_iload C.hx C.hb dL_refuses_477 (lv_at hl 0 rfl) ?_
  refine lv_iconst (v := nI 5) C.hx C.hb dL_refuses_479 (by decide +kernel) ?_
  refine lv_icmp_le (tgt := 490) C.hx C.hb dL_refuses_480 (by decide) (fun c9 => absurd c9 (by decide +kernel)) (fun _ => ?_)
  refine lv_iload C.hx C.hb dL_refuses_483 (lv_at hl 0 rfl) ?_
  refine lv_bipush (v := nI 15) C.hx C.hb dL_refuses_485 (by decide +kernel) ?_
  refine lv_icmp_lt (tgt := 497) C.hx C.hb dL_refuses_487 (by decide) (fun _ => ?_) (fun c9 => absurd c9 (by decide +kernel))
  refine lv_iconst (v := nI 1) C.hx C.hb dL_refuses_497 (by decide +kernel) ?_
  refine lv_goto (tgt := 502) C.hx C.hb dL_refuses_498 (by decide) ?_
  refine lv_istore (lv' := [(14, .int (nI 1)), (13, .int (nI 10)), (12, .int (nI 1)), (15, .int (nI 1)), (11, .int (nI 2147483647)), (10, .int (nI 2147483647)), (9, .int (nI 2147483647)), (8, .int (nI 2147483647)), (7, .int (nI 2147483647)), (6, .int (nI 2147483647)), (5, .int (nI 2)), (4, .int (nI (dfO g0 a a))), (3, .int (nI 2147483647)), (0, .ref (ad 70)), (1, .int (nI a)), (2, .int (nI b))]) C.hx C.hb dL_refuses_502 hl (by decide) rfl (fun ls hl => ?_)
  refine lv_iload C.hx C.hb dL_refuses_504 (lv_at hl 1 rfl) ?_
  refine lv_iconst (v := nI 3) C.hx C.hb dL_refuses_506 (by decide +kernel) ?_
  refine lv_icmp_eq (tgt := 531) C.hx C.hb dL_refuses_507 (by decide) (fun c9 => absurd c9 (by decide +kernel)) (fun _ => ?_)
  refine lv_iload C.hx C.hb dL_refuses_510 (lv_at hl 1 rfl) ?_
  refine lv_bipush (v := nI 7) C.hx C.hb dL_refuses_512 (by decide +kernel) ?_
  refine lv_icmp_le (tgt := 524) C.hx C.hb dL_refuses_514 (by decide) (fun c9 => absurd c9 (by decide +kernel)) (fun _ => ?_)
  refine lv_iload C.hx C.hb dL_refuses_517 (lv_at hl 1 rfl) ?_
  refine lv_bipush (v := nI 13) C.hx C.hb dL_refuses_519 (by decide +kernel) ?_
  refine lv_icmp_lt (tgt := 531) C.hx C.hb dL_refuses_521 (by decide) (fun _ => ?_) (fun c9 => absurd c9 (by decide +kernel))
  refine lv_iconst (v := nI 1) C.hx C.hb dL_refuses_531 (by decide +kernel) ?_
  refine lv_goto (tgt := 536) C.hx C.hb dL_refuses_532 (by decide) ?_
  refine lv_istore (lv' := [(15, .int (nI 1)), (14, .int (nI 1)), (13, .int (nI 10)), (12, .int (nI 1)), (11, .int (nI 2147483647)), (10, .int (nI 2147483647)), (9, .int (nI 2147483647)), (8, .int (nI 2147483647)), (7, .int (nI 2147483647)), (6, .int (nI 2147483647)), (5, .int (nI 2)), (4, .int (nI (dfO g0 a a))), (3, .int (nI 2147483647)), (0, .ref (ad 70)), (1, .int (nI a)), (2, .int (nI b))]) C.hx C.hb dL_refuses_536 hl (by decide) rfl (fun ls hl => ?_)
  refine lv_iload C.hx C.hb dL_refuses_538 (lv_at hl 1 rfl) ?_
  refine lv_if_eq (tgt := 567) C.hx C.hb dL_refuses_540 (by decide) (fun c9 => absurd c9 (by decide +kernel)) (fun _ => ?_)
  refine lv_aload_n C.hx C.hb dL_refuses_543 rfl (lv_at hl 13 rfl) ?_
  refine lv_iload C.hx C.hb dL_refuses_544 (lv_at hl 2 rfl) ?_
  refine lv_iload C.hx C.hb dL_refuses_546 (lv_at hl 7 rfl) ?_
  refine lv_iconst (v := nI 0) C.hx C.hb dL_refuses_548 (by decide +kernel) ?_
  refine lv_bipush (v := nI 99) C.hx C.hb dL_refuses_549 (by decide +kernel) ?_
  refine lv_iconst (v := nI 0) C.hx C.hb dL_refuses_551 (by decide +kernel) ?_
  refine q_cR (w := 10) (p0 := nI 2147483647) (p1 := nI 0) (p2 := nI 99) (p3 := nI 0) (r := -7000001) (c2 := 150) (s2 := 900) C hs hP hD hS (ri_weight C.htr (notr (by decide +kernel) (by omega))) hl rfl (Nat.le_of_ble_eq_true rfl) ⟨Nat.le_of_ble_eq_true rfl, Nat.le_of_ble_eq_true rfl⟩ ⟨Nat.le_of_ble_eq_true rfl, Nat.le_of_ble_eq_true rfl⟩ ⟨Nat.le_of_ble_eq_true rfl, Nat.le_of_ble_eq_true rfl⟩ dL_refuses_552 (fun g z H locs hs hP hD hS => ?_)
  refine lv_ldc (v := -7000001) C.hx C.hb C.hown (C.hT.use kk_L_90 args) dL_refuses_555 ?_
  refine lv_icmp_ne (tgt := 564) C.hx C.hb dL_refuses_557 (by decide) (fun c9 => absurd c9 (by decide +kernel)) (fun _ => ?_)
  refine lv_iconst (v := nI 1) C.hx C.hb dL_refuses_560 (by decide +kernel) ?_
  refine lv_goto (tgt := 565) C.hx C.hb dL_refuses_561 (by decide) ?_
  refine lv_istore (lv' := [(12, .int (nI 1)), (15, .int (nI 1)), (14, .int (nI 1)), (13, .int (nI 10)), (11, .int (nI 2147483647)), (10, .int (nI 2147483647)), (9, .int (nI 2147483647)), (8, .int (nI 2147483647)), (7, .int (nI 2147483647)), (6, .int (nI 2147483647)), (5, .int (nI 2)), (4, .int (nI (dfO g0 a a))), (3, .int (nI 2147483647)), (0, .ref (ad 70)), (1, .int (nI a)), (2, .int (nI b))]) C.hx C.hb dL_refuses_565 hl (by decide) rfl (fun ls hl => ?_)
  refine lv_iload C.hx C.hb dL_refuses_567 (lv_at hl 1 rfl) ?_
  refine lv_if_eq (tgt := 637) C.hx C.hb dL_refuses_569 (by decide) (fun c9 => absurd c9 (by decide +kernel)) (fun _ => ?_)
  refine lv_iload C.hx C.hb dL_refuses_572 (lv_at hl 0 rfl) ?_
  refine lv_if_eq (tgt := 634) C.hx C.hb dL_refuses_574 (by decide) (fun c9 => absurd c9 (by decide +kernel)) (fun _ => ?_)
  exact kk g z H locs ls hs hP hD hS hl

set_option maxRecDepth 100000 in
set_option maxHeartbeats 4000000 in
theorem tf_67 {p : Program} {l : Launch} {e : Env} {s : State} {m : MethodId} {args : Array Value} {below : List Frame} {meth : Method} {c : Code} {D : va_G} {cA : ClassId} {A : Nat → Prop} {ad : Nat → Nat} {Q : State → Prop} {g0 : Nat → Nat → Int32} {a t b : Nat} (ha : a ≤ 16) (hb9 : b ≤ 40) (hab : 0 < a → 0 < b) (C : lcx p l s m c cL_refuses 16 D cA A) (kk : ∀ (g : Nat → Nat → Int32) (z : Nat → Nat) (H : Heap) (locs : List Loc) (ls : Array Slot), SR g0 a t b g z → va_P D vwCl (rlW cA ad g z) H → va_D A (rlW cA ad g z) → va_S A s.heap H locs → lv_has ls 16 [(12, .int (nI 1)), (15, .int (nI 1)), (14, .int (nI 1)), (13, .int (nI 10)), (11, .int (nI 2147483647)), (10, .int (nI 2147483647)), (9, .int (nI 2147483647)), (8, .int (nI 2147483647)), (7, .int (nI 2147483647)), (6, .int (nI 2147483647)), (5, .int (nI 2)), (4, .int (nI (dfO g0 a a))), (3, .int (nI 2147483647)), (0, .ref (ad 70)), (1, .int (nI a)), (2, .int (nI b))] → W p l e rm_Lr s m args below meth c H locs 153 918 Q (F0 m 630 ls [])) : ∀ (g : Nat → Nat → Int32) (z : Nat → Nat) (H : Heap) (locs : List Loc) (ls : Array Slot), SR g0 a t b g z → va_P D vwCl (rlW cA ad g z) H → va_D A (rlW cA ad g z) → va_S A s.heap H locs → lv_has ls 16 [(12, .int (nI 1)), (15, .int (nI 1)), (14, .int (nI 1)), (13, .int (nI 10)), (11, .int (nI 2147483647)), (10, .int (nI 2147483647)), (9, .int (nI 2147483647)), (8, .int (nI 2147483647)), (7, .int (nI 2147483647)), (6, .int (nI 2147483647)), (5, .int (nI 2)), (4, .int (nI (dfO g0 a a))), (3, .int (nI 2147483647)), (0, .ref (ad 70)), (1, .int (nI a)), (2, .int (nI b))] → W p l e rm_Lr s m args below meth c H locs 150 900 Q (F0 m 577 ls []) := by
  intro g z H locs ls hs hP hD hS hl
  refine lv_aload_n C.hx C.hb dL_refuses_577 rfl (lv_at hl 13 rfl) ?_
  refine lv_iload C.hx C.hb dL_refuses_578 (lv_at hl 3 rfl) ?_
  refine lv_iconst (v := nI 0) C.hx C.hb dL_refuses_580 (by decide +kernel) ?_
  refine lv_iload C.hx C.hb dL_refuses_581 (lv_at hl 7 rfl) ?_
  refine lv_bipush (v := nI 99) C.hx C.hb dL_refuses_583 (by decide +kernel) ?_
  refine lv_iconst (v := nI 0) C.hx C.hb dL_refuses_585 (by decide +kernel) ?_
  refine q_cR (w := 10) (p0 := nI 0) (p1 := nI 2147483647) (p2 := nI 99) (p3 := nI 0) (r := -7000001) (c2 := 151) (s2 := 906) C hs hP hD hS (rj_weight C.htr (notr (by decide +kernel) (by omega))) hl rfl (Nat.le_of_ble_eq_true rfl) ⟨Nat.le_of_ble_eq_true rfl, Nat.le_of_ble_eq_true rfl⟩ ⟨Nat.le_of_ble_eq_true rfl, Nat.le_of_ble_eq_true rfl⟩ ⟨Nat.le_of_ble_eq_true rfl, Nat.le_of_ble_eq_true rfl⟩ dL_refuses_586 (fun g z H locs hs hP hD hS => ?_)
  refine lv_ldc (v := -7000001) C.hx C.hb C.hown (C.hT.use kk_L_90 args) dL_refuses_589 ?_
  refine lv_icmp_ne (tgt := 634) C.hx C.hb dL_refuses_591 (by decide) (fun c9 => absurd c9 (by decide +kernel)) (fun _ => ?_)
  refine lv_aload_n C.hx C.hb dL_refuses_594 rfl (lv_at hl 13 rfl) ?_
  refine lv_iload C.hx C.hb dL_refuses_595 (lv_at hl 3 rfl) ?_
  refine lv_iload C.hx C.hb dL_refuses_597 (lv_at hl 7 rfl) ?_
  refine lv_iload C.hx C.hb dL_refuses_599 (lv_at hl 7 rfl) ?_
  refine lv_iconst (v := nI 0) C.hx C.hb dL_refuses_601 (by decide +kernel) ?_
  refine lv_iconst (v := nI 0) C.hx C.hb dL_refuses_602 (by decide +kernel) ?_
  refine q_cR (w := 10) (p0 := nI 2147483647) (p1 := nI 2147483647) (p2 := nI 0) (p3 := nI 0) (r := -7000001) (c2 := 152) (s2 := 912) C hs hP hD hS (ri_weight C.htr (notr (by decide +kernel) (by omega))) hl rfl (Nat.le_of_ble_eq_true rfl) ⟨Nat.le_of_ble_eq_true rfl, Nat.le_of_ble_eq_true rfl⟩ ⟨Nat.le_of_ble_eq_true rfl, Nat.le_of_ble_eq_true rfl⟩ ⟨Nat.le_of_ble_eq_true rfl, Nat.le_of_ble_eq_true rfl⟩ dL_refuses_603 (fun g z H locs hs hP hD hS => ?_)
  refine lv_ldc (v := -7000001) C.hx C.hb C.hown (C.hT.use kk_L_90 args) dL_refuses_606 ?_
  refine lv_icmp_ne (tgt := 634) C.hx C.hb dL_refuses_608 (by decide) (fun c9 => absurd c9 (by decide +kernel)) (fun _ => ?_)
  refine lv_iload_n C.hx C.hb dL_refuses_611 rfl (lv_at hl 14 rfl) ?_
  refine lv_if_eq (tgt := 630) C.hx C.hb dL_refuses_612 (by decide) (fun c9 => ?_) (fun c9 => ?_)
  · refine W.widen (k := 153) (n := 918) (Nat.le_of_ble_eq_true rfl) (Nat.le_of_ble_eq_true rfl) ?_
    exact kk g z H locs ls hs hP hD hS hl
  · have ha0 : 0 < a := Nat.pos_of_ne_zero (fun q => c9 (by rw [q]; rfl))
    have hb0 : 0 < b := hab ha0
    refine lv_aload_n C.hx C.hb dL_refuses_615 rfl (lv_at hl 13 rfl) ?_
    refine lv_iload C.hx C.hb dL_refuses_616 (lv_at hl 3 rfl) ?_
    refine lv_iconst (v := nI 0) C.hx C.hb dL_refuses_618 (by decide +kernel) ?_
    refine lv_iconst (v := nI 0) C.hx C.hb dL_refuses_619 (by decide +kernel) ?_
    refine lv_iconst (v := nI 0) C.hx C.hb dL_refuses_620 (by decide +kernel) ?_
    refine lv_iconst (v := nI 0) C.hx C.hb dL_refuses_621 (by decide +kernel) ?_
    refine q_cR (w := 10) (p0 := nI 0) (p1 := nI 0) (p2 := nI 0) (p3 := nI 0) (r := -7000002) (c2 := 153) (s2 := 918) C hs hP hD hS (rs_weight C.htr (q_r_nI (by omega))) hl rfl (Nat.le_of_ble_eq_true rfl) ⟨Nat.le_of_ble_eq_true rfl, Nat.le_of_ble_eq_true rfl⟩ ⟨Nat.le_of_ble_eq_true rfl, Nat.le_of_ble_eq_true rfl⟩ ⟨Nat.le_of_ble_eq_true rfl, Nat.le_of_ble_eq_true rfl⟩ dL_refuses_622 (fun g z H locs hs hP hD hS => ?_)
    refine lv_ldc (v := -7000002) C.hx C.hb C.hown (C.hT.use kk_L_93 args) dL_refuses_625 ?_
    refine lv_icmp_ne (tgt := 634) C.hx C.hb dL_refuses_627 (by decide) (fun c9 => absurd c9 (by decide +kernel)) (fun _ => ?_)
    exact kk g z H locs ls hs hP hD hS hl

set_option maxRecDepth 100000 in
set_option maxHeartbeats 4000000 in
theorem tf_68 {p : Program} {l : Launch} {e : Env} {s : State} {m : MethodId} {args : Array Value} {below : List Frame} {meth : Method} {c : Code} {D : va_G} {cA : ClassId} {A : Nat → Prop} {ad : Nat → Nat} {Q : State → Prop} {g0 : Nat → Nat → Int32} {a t b : Nat} (ha : a ≤ 16) (hb9 : b ≤ 40) (hab : 0 < a → 0 < b) (C : lcx p l s m c cL_refuses 16 D cA A) (kk : ∀ (g : Nat → Nat → Int32) (z : Nat → Nat) (H : Heap) (locs : List Loc) (ls : Array Slot), SR g0 a t b g z → va_P D vwCl (rlW cA ad g z) H → va_D A (rlW cA ad g z) → va_S A s.heap H locs → lv_has ls 16 [(12, .int (nI 1)), (15, .int (nI 1)), (14, .int (nI 1)), (13, .int (nI 11)), (11, .int (nI 2147483647)), (10, .int (nI 2147483647)), (9, .int (nI 2147483647)), (8, .int (nI 2147483647)), (7, .int (nI 2147483647)), (6, .int (nI 2147483647)), (5, .int (nI 2)), (4, .int (nI (dfO g0 a a))), (3, .int (nI 2147483647)), (0, .ref (ad 70)), (1, .int (nI a)), (2, .int (nI b))] → W p l e rm_Lr s m args below meth c H locs 154 924 Q (F0 m 577 ls [])) : ∀ (g : Nat → Nat → Int32) (z : Nat → Nat) (H : Heap) (locs : List Loc) (ls : Array Slot), SR g0 a t b g z → va_P D vwCl (rlW cA ad g z) H → va_D A (rlW cA ad g z) → va_S A s.heap H locs → lv_has ls 16 [(12, .int (nI 1)), (15, .int (nI 1)), (14, .int (nI 1)), (13, .int (nI 10)), (11, .int (nI 2147483647)), (10, .int (nI 2147483647)), (9, .int (nI 2147483647)), (8, .int (nI 2147483647)), (7, .int (nI 2147483647)), (6, .int (nI 2147483647)), (5, .int (nI 2)), (4, .int (nI (dfO g0 a a))), (3, .int (nI 2147483647)), (0, .ref (ad 70)), (1, .int (nI a)), (2, .int (nI b))] → W p l e rm_Lr s m args below meth c H locs 153 918 Q (F0 m 630 ls []) := by
  intro g z H locs ls hs hP hD hS hl
  refine lv_iconst (v := nI 1) C.hx C.hb dL_refuses_630 (by decide +kernel) ?_
  refine lv_goto (tgt := 635) C.hx C.hb dL_refuses_631 (by decide) ?_
  refine lv_istore (lv' := [(12, .int (nI 1)), (15, .int (nI 1)), (14, .int (nI 1)), (13, .int (nI 10)), (11, .int (nI 2147483647)), (10, .int (nI 2147483647)), (9, .int (nI 2147483647)), (8, .int (nI 2147483647)), (7, .int (nI 2147483647)), (6, .int (nI 2147483647)), (5, .int (nI 2)), (4, .int (nI (dfO g0 a a))), (3, .int (nI 2147483647)), (0, .ref (ad 70)), (1, .int (nI a)), (2, .int (nI b))]) C.hx C.hb dL_refuses_635 hl (by decide) rfl (fun ls hl => ?_)
  refine lv_iload C.hx C.hb dL_refuses_637 (lv_at hl 3 rfl) ?_
  refine lv_bipush (v := nI 15) C.hx C.hb dL_refuses_639 (by decide +kernel) ?_
  refine lv_icmp_eq (tgt := 658) C.hx C.hb dL_refuses_641 (by decide) (fun c9 => absurd c9 (by decide +kernel)) (fun _ => ?_)
  refine lv_iload C.hx C.hb dL_refuses_644 (lv_at hl 3 rfl) ?_
  refine lv_bipush (v := nI 16) C.hx C.hb dL_refuses_646 (by decide +kernel) ?_
  refine lv_icmp_eq (tgt := 658) C.hx C.hb dL_refuses_648 (by decide) (fun c9 => absurd c9 (by decide +kernel)) (fun _ => ?_)
  refine lv_iload C.hx C.hb dL_refuses_651 (lv_at hl 3 rfl) ?_
  refine lv_bipush (v := nI 18) C.hx C.hb dL_refuses_653 (by decide +kernel) ?_
  refine lv_icmp_ne (tgt := 681) C.hx C.hb dL_refuses_655 (by decide) (fun _ => ?_) (fun c9 => absurd c9 (by decide +kernel))
  refine lv_iinc (v := nI 11) (lv' := [(13, .int (nI 11)), (12, .int (nI 1)), (15, .int (nI 1)), (14, .int (nI 1)), (11, .int (nI 2147483647)), (10, .int (nI 2147483647)), (9, .int (nI 2147483647)), (8, .int (nI 2147483647)), (7, .int (nI 2147483647)), (6, .int (nI 2147483647)), (5, .int (nI 2)), (4, .int (nI (dfO g0 a a))), (3, .int (nI 2147483647)), (0, .ref (ad 70)), (1, .int (nI a)), (2, .int (nI b))]) C.hx C.hb dL_refuses_681 hl (k := 3) rfl (by decide +kernel) (by decide) rfl (fun ls hl => ?_)
  refine lv_goto (tgt := 459) C.hx C.hb dL_refuses_684 (by decide) ?_
  refine lv_iload C.hx C.hb dL_refuses_459 (lv_at hl 0 rfl) ?_
  refine lv_bipush (v := nI 20) C.hx C.hb dL_refuses_461 (by decide +kernel) ?_
  refine lv_icmp_ge (tgt := 687) C.hx C.hb dL_refuses_463 (by decide) (fun c9 => absurd c9 (by decide +kernel)) (fun _ => ?_)
  refine lv_iload C.hx C.hb dL_refuses_466 (lv_at hl 1 rfl) ?_
  refine lv_if_eq (tgt := 687) C.hx C.hb dL_refuses_468 (by decide) (fun c9 => absurd c9 (by decide +kernel)) (fun _ => ?_)
  refine lv_iload C.hx C.hb dL_refuses_471 (lv_at hl 0 rfl) ?_
  refine lv_iconst (v := nI 4) C.hx C.hb dL_refuses_473 (by decide +kernel) ?_
  refine lv_icmp_lt (tgt := 497) C.hx C.hb dL_refuses_474 (by decide) (fun c9 => absurd c9 (by decide +kernel)) (fun _ => ?_)
  refine lv_iload C.hx C.hb dL_refuses_477 (lv_at hl 0 rfl) ?_
  refine lv_iconst (v := nI 5) C.hx C.hb dL_refuses_479 (by decide +kernel) ?_
  refine lv_icmp_le (tgt := 490) C.hx C.hb dL_refuses_480 (by decide) (fun c9 => absurd c9 (by decide +kernel)) (fun _ => ?_)
  refine lv_iload C.hx C.hb dL_refuses_483 (lv_at hl 0 rfl) ?_
  refine lv_bipush (v := nI 15) C.hx C.hb dL_refuses_485 (by decide +kernel) ?_
  refine lv_icmp_lt (tgt := 497) C.hx C.hb dL_refuses_487 (by decide) (fun _ => ?_) (fun c9 => absurd c9 (by decide +kernel))
  refine lv_iconst (v := nI 1) C.hx C.hb dL_refuses_497 (by decide +kernel) ?_
  refine lv_goto (tgt := 502) C.hx C.hb dL_refuses_498 (by decide) ?_
  refine lv_istore (lv' := [(14, .int (nI 1)), (13, .int (nI 11)), (12, .int (nI 1)), (15, .int (nI 1)), (11, .int (nI 2147483647)), (10, .int (nI 2147483647)), (9, .int (nI 2147483647)), (8, .int (nI 2147483647)), (7, .int (nI 2147483647)), (6, .int (nI 2147483647)), (5, .int (nI 2)), (4, .int (nI (dfO g0 a a))), (3, .int (nI 2147483647)), (0, .ref (ad 70)), (1, .int (nI a)), (2, .int (nI b))]) C.hx C.hb dL_refuses_502 hl (by decide) rfl (fun ls hl => ?_)
  refine lv_iload C.hx C.hb dL_refuses_504 (lv_at hl 1 rfl) ?_
  refine lv_iconst (v := nI 3) C.hx C.hb dL_refuses_506 (by decide +kernel) ?_
  refine lv_icmp_eq (tgt := 531) C.hx C.hb dL_refuses_507 (by decide) (fun c9 => absurd c9 (by decide +kernel)) (fun _ => ?_)
  refine lv_iload C.hx C.hb dL_refuses_510 (lv_at hl 1 rfl) ?_
  refine lv_bipush (v := nI 7) C.hx C.hb dL_refuses_512 (by decide +kernel) ?_
  refine lv_icmp_le (tgt := 524) C.hx C.hb dL_refuses_514 (by decide) (fun c9 => absurd c9 (by decide +kernel)) (fun _ => ?_)
  refine lv_iload C.hx C.hb dL_refuses_517 (lv_at hl 1 rfl) ?_
  refine lv_bipush (v := nI 13) C.hx C.hb dL_refuses_519 (by decide +kernel) ?_
  refine lv_icmp_lt (tgt := 531) C.hx C.hb dL_refuses_521 (by decide) (fun _ => ?_) (fun c9 => absurd c9 (by decide +kernel))
  refine lv_iconst (v := nI 1) C.hx C.hb dL_refuses_531 (by decide +kernel) ?_
  refine lv_goto (tgt := 536) C.hx C.hb dL_refuses_532 (by decide) ?_
  refine lv_istore (lv' := [(15, .int (nI 1)), (14, .int (nI 1)), (13, .int (nI 11)), (12, .int (nI 1)), (11, .int (nI 2147483647)), (10, .int (nI 2147483647)), (9, .int (nI 2147483647)), (8, .int (nI 2147483647)), (7, .int (nI 2147483647)), (6, .int (nI 2147483647)), (5, .int (nI 2)), (4, .int (nI (dfO g0 a a))), (3, .int (nI 2147483647)), (0, .ref (ad 70)), (1, .int (nI a)), (2, .int (nI b))]) C.hx C.hb dL_refuses_536 hl (by decide) rfl (fun ls hl => ?_)
  refine lv_iload C.hx C.hb dL_refuses_538 (lv_at hl 1 rfl) ?_
  refine lv_if_eq (tgt := 567) C.hx C.hb dL_refuses_540 (by decide) (fun c9 => absurd c9 (by decide +kernel)) (fun _ => ?_)
  refine lv_aload_n C.hx C.hb dL_refuses_543 rfl (lv_at hl 13 rfl) ?_
  refine lv_iload C.hx C.hb dL_refuses_544 (lv_at hl 2 rfl) ?_
  refine lv_iload C.hx C.hb dL_refuses_546 (lv_at hl 7 rfl) ?_
  refine lv_iconst (v := nI 0) C.hx C.hb dL_refuses_548 (by decide +kernel) ?_
  refine lv_bipush (v := nI 99) C.hx C.hb dL_refuses_549 (by decide +kernel) ?_
  refine lv_iconst (v := nI 0) C.hx C.hb dL_refuses_551 (by decide +kernel) ?_
  refine q_cR (w := 11) (p0 := nI 2147483647) (p1 := nI 0) (p2 := nI 99) (p3 := nI 0) (r := -7000001) (c2 := 154) (s2 := 924) C hs hP hD hS (ri_whyNot C.htr (notr (by decide +kernel) (by omega))) hl rfl (Nat.le_of_ble_eq_true rfl) ⟨Nat.le_of_ble_eq_true rfl, Nat.le_of_ble_eq_true rfl⟩ ⟨Nat.le_of_ble_eq_true rfl, Nat.le_of_ble_eq_true rfl⟩ ⟨Nat.le_of_ble_eq_true rfl, Nat.le_of_ble_eq_true rfl⟩ dL_refuses_552 (fun g z H locs hs hP hD hS => ?_)
  refine lv_ldc (v := -7000001) C.hx C.hb C.hown (C.hT.use kk_L_90 args) dL_refuses_555 ?_
  refine lv_icmp_ne (tgt := 564) C.hx C.hb dL_refuses_557 (by decide) (fun c9 => absurd c9 (by decide +kernel)) (fun _ => ?_)
  refine lv_iconst (v := nI 1) C.hx C.hb dL_refuses_560 (by decide +kernel) ?_
  refine lv_goto (tgt := 565) C.hx C.hb dL_refuses_561 (by decide) ?_
  refine lv_istore (lv' := [(12, .int (nI 1)), (15, .int (nI 1)), (14, .int (nI 1)), (13, .int (nI 11)), (11, .int (nI 2147483647)), (10, .int (nI 2147483647)), (9, .int (nI 2147483647)), (8, .int (nI 2147483647)), (7, .int (nI 2147483647)), (6, .int (nI 2147483647)), (5, .int (nI 2)), (4, .int (nI (dfO g0 a a))), (3, .int (nI 2147483647)), (0, .ref (ad 70)), (1, .int (nI a)), (2, .int (nI b))]) C.hx C.hb dL_refuses_565 hl (by decide) rfl (fun ls hl => ?_)
  refine lv_iload C.hx C.hb dL_refuses_567 (lv_at hl 1 rfl) ?_
  refine lv_if_eq (tgt := 637) C.hx C.hb dL_refuses_569 (by decide) (fun c9 => absurd c9 (by decide +kernel)) (fun _ => ?_)
  refine lv_iload C.hx C.hb dL_refuses_572 (lv_at hl 0 rfl) ?_
  refine lv_if_eq (tgt := 634) C.hx C.hb dL_refuses_574 (by decide) (fun c9 => absurd c9 (by decide +kernel)) (fun _ => ?_)
  exact kk g z H locs ls hs hP hD hS hl

set_option maxRecDepth 100000 in
set_option maxHeartbeats 4000000 in
theorem tf_69 {p : Program} {l : Launch} {e : Env} {s : State} {m : MethodId} {args : Array Value} {below : List Frame} {meth : Method} {c : Code} {D : va_G} {cA : ClassId} {A : Nat → Prop} {ad : Nat → Nat} {Q : State → Prop} {g0 : Nat → Nat → Int32} {a t b : Nat} (ha : a ≤ 16) (hb9 : b ≤ 40) (hab : 0 < a → 0 < b) (C : lcx p l s m c cL_refuses 16 D cA A) (kk : ∀ (g : Nat → Nat → Int32) (z : Nat → Nat) (H : Heap) (locs : List Loc) (ls : Array Slot), SR g0 a t b g z → va_P D vwCl (rlW cA ad g z) H → va_D A (rlW cA ad g z) → va_S A s.heap H locs → lv_has ls 16 [(12, .int (nI 1)), (15, .int (nI 1)), (14, .int (nI 1)), (13, .int (nI 11)), (11, .int (nI 2147483647)), (10, .int (nI 2147483647)), (9, .int (nI 2147483647)), (8, .int (nI 2147483647)), (7, .int (nI 2147483647)), (6, .int (nI 2147483647)), (5, .int (nI 2)), (4, .int (nI (dfO g0 a a))), (3, .int (nI 2147483647)), (0, .ref (ad 70)), (1, .int (nI a)), (2, .int (nI b))] → W p l e rm_Lr s m args below meth c H locs 157 942 Q (F0 m 630 ls [])) : ∀ (g : Nat → Nat → Int32) (z : Nat → Nat) (H : Heap) (locs : List Loc) (ls : Array Slot), SR g0 a t b g z → va_P D vwCl (rlW cA ad g z) H → va_D A (rlW cA ad g z) → va_S A s.heap H locs → lv_has ls 16 [(12, .int (nI 1)), (15, .int (nI 1)), (14, .int (nI 1)), (13, .int (nI 11)), (11, .int (nI 2147483647)), (10, .int (nI 2147483647)), (9, .int (nI 2147483647)), (8, .int (nI 2147483647)), (7, .int (nI 2147483647)), (6, .int (nI 2147483647)), (5, .int (nI 2)), (4, .int (nI (dfO g0 a a))), (3, .int (nI 2147483647)), (0, .ref (ad 70)), (1, .int (nI a)), (2, .int (nI b))] → W p l e rm_Lr s m args below meth c H locs 154 924 Q (F0 m 577 ls []) := by
  intro g z H locs ls hs hP hD hS hl
  refine lv_aload_n C.hx C.hb dL_refuses_577 rfl (lv_at hl 13 rfl) ?_
  refine lv_iload C.hx C.hb dL_refuses_578 (lv_at hl 3 rfl) ?_
  refine lv_iconst (v := nI 0) C.hx C.hb dL_refuses_580 (by decide +kernel) ?_
  refine lv_iload C.hx C.hb dL_refuses_581 (lv_at hl 7 rfl) ?_
  refine lv_bipush (v := nI 99) C.hx C.hb dL_refuses_583 (by decide +kernel) ?_
  refine lv_iconst (v := nI 0) C.hx C.hb dL_refuses_585 (by decide +kernel) ?_
  refine q_cR (w := 11) (p0 := nI 0) (p1 := nI 2147483647) (p2 := nI 99) (p3 := nI 0) (r := -7000001) (c2 := 155) (s2 := 930) C hs hP hD hS (rj_whyNot C.htr (notr (by decide +kernel) (by omega))) hl rfl (Nat.le_of_ble_eq_true rfl) ⟨Nat.le_of_ble_eq_true rfl, Nat.le_of_ble_eq_true rfl⟩ ⟨Nat.le_of_ble_eq_true rfl, Nat.le_of_ble_eq_true rfl⟩ ⟨Nat.le_of_ble_eq_true rfl, Nat.le_of_ble_eq_true rfl⟩ dL_refuses_586 (fun g z H locs hs hP hD hS => ?_)
  refine lv_ldc (v := -7000001) C.hx C.hb C.hown (C.hT.use kk_L_90 args) dL_refuses_589 ?_
  refine lv_icmp_ne (tgt := 634) C.hx C.hb dL_refuses_591 (by decide) (fun c9 => absurd c9 (by decide +kernel)) (fun _ => ?_)
  refine lv_aload_n C.hx C.hb dL_refuses_594 rfl (lv_at hl 13 rfl) ?_
  refine lv_iload C.hx C.hb dL_refuses_595 (lv_at hl 3 rfl) ?_
  refine lv_iload C.hx C.hb dL_refuses_597 (lv_at hl 7 rfl) ?_
  refine lv_iload C.hx C.hb dL_refuses_599 (lv_at hl 7 rfl) ?_
  refine lv_iconst (v := nI 0) C.hx C.hb dL_refuses_601 (by decide +kernel) ?_
  refine lv_iconst (v := nI 0) C.hx C.hb dL_refuses_602 (by decide +kernel) ?_
  refine q_cR (w := 11) (p0 := nI 2147483647) (p1 := nI 2147483647) (p2 := nI 0) (p3 := nI 0) (r := -7000001) (c2 := 156) (s2 := 936) C hs hP hD hS (ri_whyNot C.htr (notr (by decide +kernel) (by omega))) hl rfl (Nat.le_of_ble_eq_true rfl) ⟨Nat.le_of_ble_eq_true rfl, Nat.le_of_ble_eq_true rfl⟩ ⟨Nat.le_of_ble_eq_true rfl, Nat.le_of_ble_eq_true rfl⟩ ⟨Nat.le_of_ble_eq_true rfl, Nat.le_of_ble_eq_true rfl⟩ dL_refuses_603 (fun g z H locs hs hP hD hS => ?_)
  refine lv_ldc (v := -7000001) C.hx C.hb C.hown (C.hT.use kk_L_90 args) dL_refuses_606 ?_
  refine lv_icmp_ne (tgt := 634) C.hx C.hb dL_refuses_608 (by decide) (fun c9 => absurd c9 (by decide +kernel)) (fun _ => ?_)
  refine lv_iload_n C.hx C.hb dL_refuses_611 rfl (lv_at hl 14 rfl) ?_
  refine lv_if_eq (tgt := 630) C.hx C.hb dL_refuses_612 (by decide) (fun c9 => ?_) (fun c9 => ?_)
  · refine W.widen (k := 157) (n := 942) (Nat.le_of_ble_eq_true rfl) (Nat.le_of_ble_eq_true rfl) ?_
    exact kk g z H locs ls hs hP hD hS hl
  · have ha0 : 0 < a := Nat.pos_of_ne_zero (fun q => c9 (by rw [q]; rfl))
    have hb0 : 0 < b := hab ha0
    refine lv_aload_n C.hx C.hb dL_refuses_615 rfl (lv_at hl 13 rfl) ?_
    refine lv_iload C.hx C.hb dL_refuses_616 (lv_at hl 3 rfl) ?_
    refine lv_iconst (v := nI 0) C.hx C.hb dL_refuses_618 (by decide +kernel) ?_
    refine lv_iconst (v := nI 0) C.hx C.hb dL_refuses_619 (by decide +kernel) ?_
    refine lv_iconst (v := nI 0) C.hx C.hb dL_refuses_620 (by decide +kernel) ?_
    refine lv_iconst (v := nI 0) C.hx C.hb dL_refuses_621 (by decide +kernel) ?_
    refine q_cR (w := 11) (p0 := nI 0) (p1 := nI 0) (p2 := nI 0) (p3 := nI 0) (r := -7000002) (c2 := 157) (s2 := 942) C hs hP hD hS (rs_whyNot C.htr (q_r_nI (by omega))) hl rfl (Nat.le_of_ble_eq_true rfl) ⟨Nat.le_of_ble_eq_true rfl, Nat.le_of_ble_eq_true rfl⟩ ⟨Nat.le_of_ble_eq_true rfl, Nat.le_of_ble_eq_true rfl⟩ ⟨Nat.le_of_ble_eq_true rfl, Nat.le_of_ble_eq_true rfl⟩ dL_refuses_622 (fun g z H locs hs hP hD hS => ?_)
    refine lv_ldc (v := -7000002) C.hx C.hb C.hown (C.hT.use kk_L_93 args) dL_refuses_625 ?_
    refine lv_icmp_ne (tgt := 634) C.hx C.hb dL_refuses_627 (by decide) (fun c9 => absurd c9 (by decide +kernel)) (fun _ => ?_)
    exact kk g z H locs ls hs hP hD hS hl

set_option maxRecDepth 100000 in
set_option maxHeartbeats 4000000 in
theorem tf_70 {p : Program} {l : Launch} {e : Env} {s : State} {m : MethodId} {args : Array Value} {below : List Frame} {meth : Method} {c : Code} {D : va_G} {cA : ClassId} {A : Nat → Prop} {ad : Nat → Nat} {Q : State → Prop} {g0 : Nat → Nat → Int32} {a t b : Nat} (ha : a ≤ 16) (hb9 : b ≤ 40) (hab : 0 < a → 0 < b) (C : lcx p l s m c cL_refuses 16 D cA A) (kk : ∀ (g : Nat → Nat → Int32) (z : Nat → Nat) (H : Heap) (locs : List Loc) (ls : Array Slot), SR g0 a t b g z → va_P D vwCl (rlW cA ad g z) H → va_D A (rlW cA ad g z) → va_S A s.heap H locs → lv_has ls 16 [(12, .int (nI 1)), (15, .int (nI 1)), (14, .int (nI 1)), (13, .int (nI 12)), (11, .int (nI 2147483647)), (10, .int (nI 2147483647)), (9, .int (nI 2147483647)), (8, .int (nI 2147483647)), (7, .int (nI 2147483647)), (6, .int (nI 2147483647)), (5, .int (nI 2)), (4, .int (nI (dfO g0 a a))), (3, .int (nI 2147483647)), (0, .ref (ad 70)), (1, .int (nI a)), (2, .int (nI b))] → W p l e rm_Lr s m args below meth c H locs 158 948 Q (F0 m 577 ls [])) : ∀ (g : Nat → Nat → Int32) (z : Nat → Nat) (H : Heap) (locs : List Loc) (ls : Array Slot), SR g0 a t b g z → va_P D vwCl (rlW cA ad g z) H → va_D A (rlW cA ad g z) → va_S A s.heap H locs → lv_has ls 16 [(12, .int (nI 1)), (15, .int (nI 1)), (14, .int (nI 1)), (13, .int (nI 11)), (11, .int (nI 2147483647)), (10, .int (nI 2147483647)), (9, .int (nI 2147483647)), (8, .int (nI 2147483647)), (7, .int (nI 2147483647)), (6, .int (nI 2147483647)), (5, .int (nI 2)), (4, .int (nI (dfO g0 a a))), (3, .int (nI 2147483647)), (0, .ref (ad 70)), (1, .int (nI a)), (2, .int (nI b))] → W p l e rm_Lr s m args below meth c H locs 157 942 Q (F0 m 630 ls []) := by
  intro g z H locs ls hs hP hD hS hl
  refine lv_iconst (v := nI 1) C.hx C.hb dL_refuses_630 (by decide +kernel) ?_
  refine lv_goto (tgt := 635) C.hx C.hb dL_refuses_631 (by decide) ?_
  refine lv_istore (lv' := [(12, .int (nI 1)), (15, .int (nI 1)), (14, .int (nI 1)), (13, .int (nI 11)), (11, .int (nI 2147483647)), (10, .int (nI 2147483647)), (9, .int (nI 2147483647)), (8, .int (nI 2147483647)), (7, .int (nI 2147483647)), (6, .int (nI 2147483647)), (5, .int (nI 2)), (4, .int (nI (dfO g0 a a))), (3, .int (nI 2147483647)), (0, .ref (ad 70)), (1, .int (nI a)), (2, .int (nI b))]) C.hx C.hb dL_refuses_635 hl (by decide) rfl (fun ls hl => ?_)
  refine lv_iload C.hx C.hb dL_refuses_637 (lv_at hl 3 rfl) ?_
  refine lv_bipush (v := nI 15) C.hx C.hb dL_refuses_639 (by decide +kernel) ?_
  refine lv_icmp_eq (tgt := 658) C.hx C.hb dL_refuses_641 (by decide) (fun c9 => absurd c9 (by decide +kernel)) (fun _ => ?_)
  refine lv_iload C.hx C.hb dL_refuses_644 (lv_at hl 3 rfl) ?_
  refine lv_bipush (v := nI 16) C.hx C.hb dL_refuses_646 (by decide +kernel) ?_
  refine lv_icmp_eq (tgt := 658) C.hx C.hb dL_refuses_648 (by decide) (fun c9 => absurd c9 (by decide +kernel)) (fun _ => ?_)
  refine lv_iload C.hx C.hb dL_refuses_651 (lv_at hl 3 rfl) ?_
  refine lv_bipush (v := nI 18) C.hx C.hb dL_refuses_653 (by decide +kernel) ?_
  refine lv_icmp_ne (tgt := 681) C.hx C.hb dL_refuses_655 (by decide) (fun _ => ?_) (fun c9 => absurd c9 (by decide +kernel))
  refine lv_iinc (v := nI 12) (lv' := [(13, .int (nI 12)), (12, .int (nI 1)), (15, .int (nI 1)), (14, .int (nI 1)), (11, .int (nI 2147483647)), (10, .int (nI 2147483647)), (9, .int (nI 2147483647)), (8, .int (nI 2147483647)), (7, .int (nI 2147483647)), (6, .int (nI 2147483647)), (5, .int (nI 2)), (4, .int (nI (dfO g0 a a))), (3, .int (nI 2147483647)), (0, .ref (ad 70)), (1, .int (nI a)), (2, .int (nI b))]) C.hx C.hb dL_refuses_681 hl (k := 3) rfl (by decide +kernel) (by decide) rfl (fun ls hl => ?_)
  refine lv_goto (tgt := 459) C.hx C.hb dL_refuses_684 (by decide) ?_
  refine lv_iload C.hx C.hb dL_refuses_459 (lv_at hl 0 rfl) ?_
  refine lv_bipush (v := nI 20) C.hx C.hb dL_refuses_461 (by decide +kernel) ?_
  refine lv_icmp_ge (tgt := 687) C.hx C.hb dL_refuses_463 (by decide) (fun c9 => absurd c9 (by decide +kernel)) (fun _ => ?_)
  refine lv_iload C.hx C.hb dL_refuses_466 (lv_at hl 1 rfl) ?_
  refine lv_if_eq (tgt := 687) C.hx C.hb dL_refuses_468 (by decide) (fun c9 => absurd c9 (by decide +kernel)) (fun _ => ?_)
  refine lv_iload C.hx C.hb dL_refuses_471 (lv_at hl 0 rfl) ?_
  refine lv_iconst (v := nI 4) C.hx C.hb dL_refuses_473 (by decide +kernel) ?_
  refine lv_icmp_lt (tgt := 497) C.hx C.hb dL_refuses_474 (by decide) (fun c9 => absurd c9 (by decide +kernel)) (fun _ => ?_)
  refine lv_iload C.hx C.hb dL_refuses_477 (lv_at hl 0 rfl) ?_
  refine lv_iconst (v := nI 5) C.hx C.hb dL_refuses_479 (by decide +kernel) ?_
  refine lv_icmp_le (tgt := 490) C.hx C.hb dL_refuses_480 (by decide) (fun c9 => absurd c9 (by decide +kernel)) (fun _ => ?_)
  refine lv_iload C.hx C.hb dL_refuses_483 (lv_at hl 0 rfl) ?_
  refine lv_bipush (v := nI 15) C.hx C.hb dL_refuses_485 (by decide +kernel) ?_
  refine lv_icmp_lt (tgt := 497) C.hx C.hb dL_refuses_487 (by decide) (fun _ => ?_) (fun c9 => absurd c9 (by decide +kernel))
  refine lv_iconst (v := nI 1) C.hx C.hb dL_refuses_497 (by decide +kernel) ?_
  refine lv_goto (tgt := 502) C.hx C.hb dL_refuses_498 (by decide) ?_
  refine lv_istore (lv' := [(14, .int (nI 1)), (13, .int (nI 12)), (12, .int (nI 1)), (15, .int (nI 1)), (11, .int (nI 2147483647)), (10, .int (nI 2147483647)), (9, .int (nI 2147483647)), (8, .int (nI 2147483647)), (7, .int (nI 2147483647)), (6, .int (nI 2147483647)), (5, .int (nI 2)), (4, .int (nI (dfO g0 a a))), (3, .int (nI 2147483647)), (0, .ref (ad 70)), (1, .int (nI a)), (2, .int (nI b))]) C.hx C.hb dL_refuses_502 hl (by decide) rfl (fun ls hl => ?_)
  refine lv_iload C.hx C.hb dL_refuses_504 (lv_at hl 1 rfl) ?_
  refine lv_iconst (v := nI 3) C.hx C.hb dL_refuses_506 (by decide +kernel) ?_
  refine lv_icmp_eq (tgt := 531) C.hx C.hb dL_refuses_507 (by decide) (fun c9 => absurd c9 (by decide +kernel)) (fun _ => ?_)
  refine lv_iload C.hx C.hb dL_refuses_510 (lv_at hl 1 rfl) ?_
  refine lv_bipush (v := nI 7) C.hx C.hb dL_refuses_512 (by decide +kernel) ?_
  refine lv_icmp_le (tgt := 524) C.hx C.hb dL_refuses_514 (by decide) (fun c9 => absurd c9 (by decide +kernel)) (fun _ => ?_)
  refine lv_iload C.hx C.hb dL_refuses_517 (lv_at hl 1 rfl) ?_
  refine lv_bipush (v := nI 13) C.hx C.hb dL_refuses_519 (by decide +kernel) ?_
  refine lv_icmp_lt (tgt := 531) C.hx C.hb dL_refuses_521 (by decide) (fun _ => ?_) (fun c9 => absurd c9 (by decide +kernel))
  refine lv_iconst (v := nI 1) C.hx C.hb dL_refuses_531 (by decide +kernel) ?_
  refine lv_goto (tgt := 536) C.hx C.hb dL_refuses_532 (by decide) ?_
  refine lv_istore (lv' := [(15, .int (nI 1)), (14, .int (nI 1)), (13, .int (nI 12)), (12, .int (nI 1)), (11, .int (nI 2147483647)), (10, .int (nI 2147483647)), (9, .int (nI 2147483647)), (8, .int (nI 2147483647)), (7, .int (nI 2147483647)), (6, .int (nI 2147483647)), (5, .int (nI 2)), (4, .int (nI (dfO g0 a a))), (3, .int (nI 2147483647)), (0, .ref (ad 70)), (1, .int (nI a)), (2, .int (nI b))]) C.hx C.hb dL_refuses_536 hl (by decide) rfl (fun ls hl => ?_)
  refine lv_iload C.hx C.hb dL_refuses_538 (lv_at hl 1 rfl) ?_
  refine lv_if_eq (tgt := 567) C.hx C.hb dL_refuses_540 (by decide) (fun c9 => absurd c9 (by decide +kernel)) (fun _ => ?_)
  refine lv_aload_n C.hx C.hb dL_refuses_543 rfl (lv_at hl 13 rfl) ?_
  refine lv_iload C.hx C.hb dL_refuses_544 (lv_at hl 2 rfl) ?_
  refine lv_iload C.hx C.hb dL_refuses_546 (lv_at hl 7 rfl) ?_
  refine lv_iconst (v := nI 0) C.hx C.hb dL_refuses_548 (by decide +kernel) ?_
  refine lv_bipush (v := nI 99) C.hx C.hb dL_refuses_549 (by decide +kernel) ?_
  refine lv_iconst (v := nI 0) C.hx C.hb dL_refuses_551 (by decide +kernel) ?_
  refine q_cR (w := 12) (p0 := nI 2147483647) (p1 := nI 0) (p2 := nI 99) (p3 := nI 0) (r := -7000001) (c2 := 158) (s2 := 948) C hs hP hD hS (ri_join C.htr (notr (by decide +kernel) (by omega))) hl rfl (Nat.le_of_ble_eq_true rfl) ⟨Nat.le_of_ble_eq_true rfl, Nat.le_of_ble_eq_true rfl⟩ ⟨Nat.le_of_ble_eq_true rfl, Nat.le_of_ble_eq_true rfl⟩ ⟨Nat.le_of_ble_eq_true rfl, Nat.le_of_ble_eq_true rfl⟩ dL_refuses_552 (fun g z H locs hs hP hD hS => ?_)
  refine lv_ldc (v := -7000001) C.hx C.hb C.hown (C.hT.use kk_L_90 args) dL_refuses_555 ?_
  refine lv_icmp_ne (tgt := 564) C.hx C.hb dL_refuses_557 (by decide) (fun c9 => absurd c9 (by decide +kernel)) (fun _ => ?_)
  refine lv_iconst (v := nI 1) C.hx C.hb dL_refuses_560 (by decide +kernel) ?_
  refine lv_goto (tgt := 565) C.hx C.hb dL_refuses_561 (by decide) ?_
  refine lv_istore (lv' := [(12, .int (nI 1)), (15, .int (nI 1)), (14, .int (nI 1)), (13, .int (nI 12)), (11, .int (nI 2147483647)), (10, .int (nI 2147483647)), (9, .int (nI 2147483647)), (8, .int (nI 2147483647)), (7, .int (nI 2147483647)), (6, .int (nI 2147483647)), (5, .int (nI 2)), (4, .int (nI (dfO g0 a a))), (3, .int (nI 2147483647)), (0, .ref (ad 70)), (1, .int (nI a)), (2, .int (nI b))]) C.hx C.hb dL_refuses_565 hl (by decide) rfl (fun ls hl => ?_)
  refine lv_iload C.hx C.hb dL_refuses_567 (lv_at hl 1 rfl) ?_
  refine lv_if_eq (tgt := 637) C.hx C.hb dL_refuses_569 (by decide) (fun c9 => absurd c9 (by decide +kernel)) (fun _ => ?_)
  refine lv_iload C.hx C.hb dL_refuses_572 (lv_at hl 0 rfl) ?_
  refine lv_if_eq (tgt := 634) C.hx C.hb dL_refuses_574 (by decide) (fun c9 => absurd c9 (by decide +kernel)) (fun _ => ?_)
  exact kk g z H locs ls hs hP hD hS hl

set_option maxRecDepth 100000 in
set_option maxHeartbeats 4000000 in
theorem tf_71 {p : Program} {l : Launch} {e : Env} {s : State} {m : MethodId} {args : Array Value} {below : List Frame} {meth : Method} {c : Code} {D : va_G} {cA : ClassId} {A : Nat → Prop} {ad : Nat → Nat} {Q : State → Prop} {g0 : Nat → Nat → Int32} {a t b : Nat} (ha : a ≤ 16) (hb9 : b ≤ 40) (hab : 0 < a → 0 < b) (C : lcx p l s m c cL_refuses 16 D cA A) (kk : ∀ (g : Nat → Nat → Int32) (z : Nat → Nat) (H : Heap) (locs : List Loc) (ls : Array Slot), SR g0 a t b g z → va_P D vwCl (rlW cA ad g z) H → va_D A (rlW cA ad g z) → va_S A s.heap H locs → lv_has ls 16 [(12, .int (nI 1)), (15, .int (nI 1)), (14, .int (nI 1)), (13, .int (nI 12)), (11, .int (nI 2147483647)), (10, .int (nI 2147483647)), (9, .int (nI 2147483647)), (8, .int (nI 2147483647)), (7, .int (nI 2147483647)), (6, .int (nI 2147483647)), (5, .int (nI 2)), (4, .int (nI (dfO g0 a a))), (3, .int (nI 2147483647)), (0, .ref (ad 70)), (1, .int (nI a)), (2, .int (nI b))] → W p l e rm_Lr s m args below meth c H locs 161 966 Q (F0 m 630 ls [])) : ∀ (g : Nat → Nat → Int32) (z : Nat → Nat) (H : Heap) (locs : List Loc) (ls : Array Slot), SR g0 a t b g z → va_P D vwCl (rlW cA ad g z) H → va_D A (rlW cA ad g z) → va_S A s.heap H locs → lv_has ls 16 [(12, .int (nI 1)), (15, .int (nI 1)), (14, .int (nI 1)), (13, .int (nI 12)), (11, .int (nI 2147483647)), (10, .int (nI 2147483647)), (9, .int (nI 2147483647)), (8, .int (nI 2147483647)), (7, .int (nI 2147483647)), (6, .int (nI 2147483647)), (5, .int (nI 2)), (4, .int (nI (dfO g0 a a))), (3, .int (nI 2147483647)), (0, .ref (ad 70)), (1, .int (nI a)), (2, .int (nI b))] → W p l e rm_Lr s m args below meth c H locs 158 948 Q (F0 m 577 ls []) := by
  intro g z H locs ls hs hP hD hS hl
  refine lv_aload_n C.hx C.hb dL_refuses_577 rfl (lv_at hl 13 rfl) ?_
  refine lv_iload C.hx C.hb dL_refuses_578 (lv_at hl 3 rfl) ?_
  refine lv_iconst (v := nI 0) C.hx C.hb dL_refuses_580 (by decide +kernel) ?_
  refine lv_iload C.hx C.hb dL_refuses_581 (lv_at hl 7 rfl) ?_
  refine lv_bipush (v := nI 99) C.hx C.hb dL_refuses_583 (by decide +kernel) ?_
  refine lv_iconst (v := nI 0) C.hx C.hb dL_refuses_585 (by decide +kernel) ?_
  refine q_cR (w := 12) (p0 := nI 0) (p1 := nI 2147483647) (p2 := nI 99) (p3 := nI 0) (r := -7000001) (c2 := 159) (s2 := 954) C hs hP hD hS (rj_join C.htr (notr (by decide +kernel) (by omega))) hl rfl (Nat.le_of_ble_eq_true rfl) ⟨Nat.le_of_ble_eq_true rfl, Nat.le_of_ble_eq_true rfl⟩ ⟨Nat.le_of_ble_eq_true rfl, Nat.le_of_ble_eq_true rfl⟩ ⟨Nat.le_of_ble_eq_true rfl, Nat.le_of_ble_eq_true rfl⟩ dL_refuses_586 (fun g z H locs hs hP hD hS => ?_)
  refine lv_ldc (v := -7000001) C.hx C.hb C.hown (C.hT.use kk_L_90 args) dL_refuses_589 ?_
  refine lv_icmp_ne (tgt := 634) C.hx C.hb dL_refuses_591 (by decide) (fun c9 => absurd c9 (by decide +kernel)) (fun _ => ?_)
  refine lv_aload_n C.hx C.hb dL_refuses_594 rfl (lv_at hl 13 rfl) ?_
  refine lv_iload C.hx C.hb dL_refuses_595 (lv_at hl 3 rfl) ?_
  refine lv_iload C.hx C.hb dL_refuses_597 (lv_at hl 7 rfl) ?_
  refine lv_iload C.hx C.hb dL_refuses_599 (lv_at hl 7 rfl) ?_
  refine lv_iconst (v := nI 0) C.hx C.hb dL_refuses_601 (by decide +kernel) ?_
  refine lv_iconst (v := nI 0) C.hx C.hb dL_refuses_602 (by decide +kernel) ?_
  refine q_cR (w := 12) (p0 := nI 2147483647) (p1 := nI 2147483647) (p2 := nI 0) (p3 := nI 0) (r := -7000001) (c2 := 160) (s2 := 960) C hs hP hD hS (ri_join C.htr (notr (by decide +kernel) (by omega))) hl rfl (Nat.le_of_ble_eq_true rfl) ⟨Nat.le_of_ble_eq_true rfl, Nat.le_of_ble_eq_true rfl⟩ ⟨Nat.le_of_ble_eq_true rfl, Nat.le_of_ble_eq_true rfl⟩ ⟨Nat.le_of_ble_eq_true rfl, Nat.le_of_ble_eq_true rfl⟩ dL_refuses_603 (fun g z H locs hs hP hD hS => ?_)
  refine lv_ldc (v := -7000001) C.hx C.hb C.hown (C.hT.use kk_L_90 args) dL_refuses_606 ?_
  refine lv_icmp_ne (tgt := 634) C.hx C.hb dL_refuses_608 (by decide) (fun c9 => absurd c9 (by decide +kernel)) (fun _ => ?_)
  refine lv_iload_n C.hx C.hb dL_refuses_611 rfl (lv_at hl 14 rfl) ?_
  refine lv_if_eq (tgt := 630) C.hx C.hb dL_refuses_612 (by decide) (fun c9 => ?_) (fun c9 => ?_)
  · refine W.widen (k := 161) (n := 966) (Nat.le_of_ble_eq_true rfl) (Nat.le_of_ble_eq_true rfl) ?_
    exact kk g z H locs ls hs hP hD hS hl
  · have ha0 : 0 < a := Nat.pos_of_ne_zero (fun q => c9 (by rw [q]; rfl))
    have hb0 : 0 < b := hab ha0
    refine lv_aload_n C.hx C.hb dL_refuses_615 rfl (lv_at hl 13 rfl) ?_
    refine lv_iload C.hx C.hb dL_refuses_616 (lv_at hl 3 rfl) ?_
    refine lv_iconst (v := nI 0) C.hx C.hb dL_refuses_618 (by decide +kernel) ?_
    refine lv_iconst (v := nI 0) C.hx C.hb dL_refuses_619 (by decide +kernel) ?_
    refine lv_iconst (v := nI 0) C.hx C.hb dL_refuses_620 (by decide +kernel) ?_
    refine lv_iconst (v := nI 0) C.hx C.hb dL_refuses_621 (by decide +kernel) ?_
    refine q_cR (w := 12) (p0 := nI 0) (p1 := nI 0) (p2 := nI 0) (p3 := nI 0) (r := -7000002) (c2 := 161) (s2 := 966) C hs hP hD hS (rs_join C.htr (q_r_nI (by omega))) hl rfl (Nat.le_of_ble_eq_true rfl) ⟨Nat.le_of_ble_eq_true rfl, Nat.le_of_ble_eq_true rfl⟩ ⟨Nat.le_of_ble_eq_true rfl, Nat.le_of_ble_eq_true rfl⟩ ⟨Nat.le_of_ble_eq_true rfl, Nat.le_of_ble_eq_true rfl⟩ dL_refuses_622 (fun g z H locs hs hP hD hS => ?_)
    refine lv_ldc (v := -7000002) C.hx C.hb C.hown (C.hT.use kk_L_93 args) dL_refuses_625 ?_
    refine lv_icmp_ne (tgt := 634) C.hx C.hb dL_refuses_627 (by decide) (fun c9 => absurd c9 (by decide +kernel)) (fun _ => ?_)
    exact kk g z H locs ls hs hP hD hS hl

set_option maxRecDepth 100000 in
set_option maxHeartbeats 4000000 in
theorem tf_72 {p : Program} {l : Launch} {e : Env} {s : State} {m : MethodId} {args : Array Value} {below : List Frame} {meth : Method} {c : Code} {D : va_G} {cA : ClassId} {A : Nat → Prop} {ad : Nat → Nat} {Q : State → Prop} {g0 : Nat → Nat → Int32} {a t b : Nat} (ha : a ≤ 16) (hb9 : b ≤ 40) (hab : 0 < a → 0 < b) (C : lcx p l s m c cL_refuses 16 D cA A) (kk : ∀ (g : Nat → Nat → Int32) (z : Nat → Nat) (H : Heap) (locs : List Loc) (ls : Array Slot), SR g0 a t b g z → va_P D vwCl (rlW cA ad g z) H → va_D A (rlW cA ad g z) → va_S A s.heap H locs → lv_has ls 16 [(12, .int (nI 1)), (15, .int (nI 0)), (14, .int (nI 1)), (13, .int (nI 13)), (11, .int (nI 2147483647)), (10, .int (nI 2147483647)), (9, .int (nI 2147483647)), (8, .int (nI 2147483647)), (7, .int (nI 2147483647)), (6, .int (nI 2147483647)), (5, .int (nI 2)), (4, .int (nI (dfO g0 a a))), (3, .int (nI 2147483647)), (0, .ref (ad 70)), (1, .int (nI a)), (2, .int (nI b))] → W p l e rm_Lr s m args below meth c H locs 162 972 Q (F0 m 637 ls [])) : ∀ (g : Nat → Nat → Int32) (z : Nat → Nat) (H : Heap) (locs : List Loc) (ls : Array Slot), SR g0 a t b g z → va_P D vwCl (rlW cA ad g z) H → va_D A (rlW cA ad g z) → va_S A s.heap H locs → lv_has ls 16 [(12, .int (nI 1)), (15, .int (nI 1)), (14, .int (nI 1)), (13, .int (nI 12)), (11, .int (nI 2147483647)), (10, .int (nI 2147483647)), (9, .int (nI 2147483647)), (8, .int (nI 2147483647)), (7, .int (nI 2147483647)), (6, .int (nI 2147483647)), (5, .int (nI 2)), (4, .int (nI (dfO g0 a a))), (3, .int (nI 2147483647)), (0, .ref (ad 70)), (1, .int (nI a)), (2, .int (nI b))] → W p l e rm_Lr s m args below meth c H locs 161 966 Q (F0 m 630 ls []) := by
  intro g z H locs ls hs hP hD hS hl
  refine lv_iconst (v := nI 1) C.hx C.hb dL_refuses_630 (by decide +kernel) ?_
  refine lv_goto (tgt := 635) C.hx C.hb dL_refuses_631 (by decide) ?_
  refine lv_istore (lv' := [(12, .int (nI 1)), (15, .int (nI 1)), (14, .int (nI 1)), (13, .int (nI 12)), (11, .int (nI 2147483647)), (10, .int (nI 2147483647)), (9, .int (nI 2147483647)), (8, .int (nI 2147483647)), (7, .int (nI 2147483647)), (6, .int (nI 2147483647)), (5, .int (nI 2)), (4, .int (nI (dfO g0 a a))), (3, .int (nI 2147483647)), (0, .ref (ad 70)), (1, .int (nI a)), (2, .int (nI b))]) C.hx C.hb dL_refuses_635 hl (by decide) rfl (fun ls hl => ?_)
  refine lv_iload C.hx C.hb dL_refuses_637 (lv_at hl 3 rfl) ?_
  refine lv_bipush (v := nI 15) C.hx C.hb dL_refuses_639 (by decide +kernel) ?_
  refine lv_icmp_eq (tgt := 658) C.hx C.hb dL_refuses_641 (by decide) (fun c9 => absurd c9 (by decide +kernel)) (fun _ => ?_)
  refine lv_iload C.hx C.hb dL_refuses_644 (lv_at hl 3 rfl) ?_
  refine lv_bipush (v := nI 16) C.hx C.hb dL_refuses_646 (by decide +kernel) ?_
  refine lv_icmp_eq (tgt := 658) C.hx C.hb dL_refuses_648 (by decide) (fun c9 => absurd c9 (by decide +kernel)) (fun _ => ?_)
  refine lv_iload C.hx C.hb dL_refuses_651 (lv_at hl 3 rfl) ?_
  refine lv_bipush (v := nI 18) C.hx C.hb dL_refuses_653 (by decide +kernel) ?_
  refine lv_icmp_ne (tgt := 681) C.hx C.hb dL_refuses_655 (by decide) (fun _ => ?_) (fun c9 => absurd c9 (by decide +kernel))
  refine lv_iinc (v := nI 13) (lv' := [(13, .int (nI 13)), (12, .int (nI 1)), (15, .int (nI 1)), (14, .int (nI 1)), (11, .int (nI 2147483647)), (10, .int (nI 2147483647)), (9, .int (nI 2147483647)), (8, .int (nI 2147483647)), (7, .int (nI 2147483647)), (6, .int (nI 2147483647)), (5, .int (nI 2)), (4, .int (nI (dfO g0 a a))), (3, .int (nI 2147483647)), (0, .ref (ad 70)), (1, .int (nI a)), (2, .int (nI b))]) C.hx C.hb dL_refuses_681 hl (k := 3) rfl (by decide +kernel) (by decide) rfl (fun ls hl => ?_)
  refine lv_goto (tgt := 459) C.hx C.hb dL_refuses_684 (by decide) ?_
  refine lv_iload C.hx C.hb dL_refuses_459 (lv_at hl 0 rfl) ?_
  refine lv_bipush (v := nI 20) C.hx C.hb dL_refuses_461 (by decide +kernel) ?_
  refine lv_icmp_ge (tgt := 687) C.hx C.hb dL_refuses_463 (by decide) (fun c9 => absurd c9 (by decide +kernel)) (fun _ => ?_)
  refine lv_iload C.hx C.hb dL_refuses_466 (lv_at hl 1 rfl) ?_
  refine lv_if_eq (tgt := 687) C.hx C.hb dL_refuses_468 (by decide) (fun c9 => absurd c9 (by decide +kernel)) (fun _ => ?_)
  refine lv_iload C.hx C.hb dL_refuses_471 (lv_at hl 0 rfl) ?_
  refine lv_iconst (v := nI 4) C.hx C.hb dL_refuses_473 (by decide +kernel) ?_
  refine lv_icmp_lt (tgt := 497) C.hx C.hb dL_refuses_474 (by decide) (fun c9 => absurd c9 (by decide +kernel)) (fun _ => ?_)
  refine lv_iload C.hx C.hb dL_refuses_477 (lv_at hl 0 rfl) ?_
  refine lv_iconst (v := nI 5) C.hx C.hb dL_refuses_479 (by decide +kernel) ?_
  refine lv_icmp_le (tgt := 490) C.hx C.hb dL_refuses_480 (by decide) (fun c9 => absurd c9 (by decide +kernel)) (fun _ => ?_)
  refine lv_iload C.hx C.hb dL_refuses_483 (lv_at hl 0 rfl) ?_
  refine lv_bipush (v := nI 15) C.hx C.hb dL_refuses_485 (by decide +kernel) ?_
  refine lv_icmp_lt (tgt := 497) C.hx C.hb dL_refuses_487 (by decide) (fun _ => ?_) (fun c9 => absurd c9 (by decide +kernel))
  refine lv_iconst (v := nI 1) C.hx C.hb dL_refuses_497 (by decide +kernel) ?_
  refine lv_goto (tgt := 502) C.hx C.hb dL_refuses_498 (by decide) ?_
  refine lv_istore (lv' := [(14, .int (nI 1)), (13, .int (nI 13)), (12, .int (nI 1)), (15, .int (nI 1)), (11, .int (nI 2147483647)), (10, .int (nI 2147483647)), (9, .int (nI 2147483647)), (8, .int (nI 2147483647)), (7, .int (nI 2147483647)), (6, .int (nI 2147483647)), (5, .int (nI 2)), (4, .int (nI (dfO g0 a a))), (3, .int (nI 2147483647)), (0, .ref (ad 70)), (1, .int (nI a)), (2, .int (nI b))]) C.hx C.hb dL_refuses_502 hl (by decide) rfl (fun ls hl => ?_)
  refine lv_iload C.hx C.hb dL_refuses_504 (lv_at hl 1 rfl) ?_
  refine lv_iconst (v := nI 3) C.hx C.hb dL_refuses_506 (by decide +kernel) ?_
  refine lv_icmp_eq (tgt := 531) C.hx C.hb dL_refuses_507 (by decide) (fun c9 => absurd c9 (by decide +kernel)) (fun _ => ?_)
  refine lv_iload C.hx C.hb dL_refuses_510 (lv_at hl 1 rfl) ?_
  refine lv_bipush (v := nI 7) C.hx C.hb dL_refuses_512 (by decide +kernel) ?_
  refine lv_icmp_le (tgt := 524) C.hx C.hb dL_refuses_514 (by decide) (fun c9 => absurd c9 (by decide +kernel)) (fun _ => ?_)
  refine lv_iload C.hx C.hb dL_refuses_517 (lv_at hl 1 rfl) ?_
  refine lv_bipush (v := nI 13) C.hx C.hb dL_refuses_519 (by decide +kernel) ?_
  refine lv_icmp_lt (tgt := 531) C.hx C.hb dL_refuses_521 (by decide) (fun c9 => absurd c9 (by decide +kernel)) (fun _ => ?_)
  refine lv_iload C.hx C.hb dL_refuses_524 (lv_at hl 1 rfl) ?_
  refine lv_bipush (v := nI 19) C.hx C.hb dL_refuses_526 (by decide +kernel) ?_
  refine lv_icmp_ne (tgt := 535) C.hx C.hb dL_refuses_528 (by decide) (fun _ => ?_) (fun c9 => absurd c9 (by decide +kernel))
  refine lv_iconst (v := nI 0) C.hx C.hb dL_refuses_535 (by decide +kernel) ?_
  refine lv_istore (lv' := [(15, .int (nI 0)), (14, .int (nI 1)), (13, .int (nI 13)), (12, .int (nI 1)), (11, .int (nI 2147483647)), (10, .int (nI 2147483647)), (9, .int (nI 2147483647)), (8, .int (nI 2147483647)), (7, .int (nI 2147483647)), (6, .int (nI 2147483647)), (5, .int (nI 2)), (4, .int (nI (dfO g0 a a))), (3, .int (nI 2147483647)), (0, .ref (ad 70)), (1, .int (nI a)), (2, .int (nI b))]) C.hx C.hb dL_refuses_536 hl (by decide) rfl (fun ls hl => ?_)
  refine lv_iload C.hx C.hb dL_refuses_538 (lv_at hl 1 rfl) ?_
  refine lv_if_eq (tgt := 567) C.hx C.hb dL_refuses_540 (by decide) (fun c9 => absurd c9 (by decide +kernel)) (fun _ => ?_)
  refine lv_aload_n C.hx C.hb dL_refuses_543 rfl (lv_at hl 13 rfl) ?_
  refine lv_iload C.hx C.hb dL_refuses_544 (lv_at hl 2 rfl) ?_
  refine lv_iload C.hx C.hb dL_refuses_546 (lv_at hl 7 rfl) ?_
  refine lv_iconst (v := nI 0) C.hx C.hb dL_refuses_548 (by decide +kernel) ?_
  refine lv_bipush (v := nI 99) C.hx C.hb dL_refuses_549 (by decide +kernel) ?_
  refine lv_iconst (v := nI 0) C.hx C.hb dL_refuses_551 (by decide +kernel) ?_
  refine q_cR (w := 13) (p0 := nI 2147483647) (p1 := nI 0) (p2 := nI 99) (p3 := nI 0) (r := -7000001) (c2 := 162) (s2 := 972) C hs hP hD hS (ri_split C.htr (notr (by decide +kernel) (by omega))) hl rfl (Nat.le_of_ble_eq_true rfl) ⟨Nat.le_of_ble_eq_true rfl, Nat.le_of_ble_eq_true rfl⟩ ⟨Nat.le_of_ble_eq_true rfl, Nat.le_of_ble_eq_true rfl⟩ ⟨Nat.le_of_ble_eq_true rfl, Nat.le_of_ble_eq_true rfl⟩ dL_refuses_552 (fun g z H locs hs hP hD hS => ?_)
  refine lv_ldc (v := -7000001) C.hx C.hb C.hown (C.hT.use kk_L_90 args) dL_refuses_555 ?_
  refine lv_icmp_ne (tgt := 564) C.hx C.hb dL_refuses_557 (by decide) (fun c9 => absurd c9 (by decide +kernel)) (fun _ => ?_)
  refine lv_iconst (v := nI 1) C.hx C.hb dL_refuses_560 (by decide +kernel) ?_
  refine lv_goto (tgt := 565) C.hx C.hb dL_refuses_561 (by decide) ?_
  refine lv_istore (lv' := [(12, .int (nI 1)), (15, .int (nI 0)), (14, .int (nI 1)), (13, .int (nI 13)), (11, .int (nI 2147483647)), (10, .int (nI 2147483647)), (9, .int (nI 2147483647)), (8, .int (nI 2147483647)), (7, .int (nI 2147483647)), (6, .int (nI 2147483647)), (5, .int (nI 2)), (4, .int (nI (dfO g0 a a))), (3, .int (nI 2147483647)), (0, .ref (ad 70)), (1, .int (nI a)), (2, .int (nI b))]) C.hx C.hb dL_refuses_565 hl (by decide) rfl (fun ls hl => ?_)
  refine lv_iload C.hx C.hb dL_refuses_567 (lv_at hl 1 rfl) ?_
  refine lv_if_eq (tgt := 637) C.hx C.hb dL_refuses_569 (by decide) (fun _ => ?_) (fun c9 => absurd c9 (by decide +kernel))
  exact kk g z H locs ls hs hP hD hS hl

set_option maxRecDepth 100000 in
set_option maxHeartbeats 4000000 in
theorem tf_73 {p : Program} {l : Launch} {e : Env} {s : State} {m : MethodId} {args : Array Value} {below : List Frame} {meth : Method} {c : Code} {D : va_G} {cA : ClassId} {A : Nat → Prop} {ad : Nat → Nat} {Q : State → Prop} {g0 : Nat → Nat → Int32} {a t b : Nat} (ha : a ≤ 16) (hb9 : b ≤ 40) (hab : 0 < a → 0 < b) (C : lcx p l s m c cL_refuses 16 D cA A) (kk : ∀ (g : Nat → Nat → Int32) (z : Nat → Nat) (H : Heap) (locs : List Loc) (ls : Array Slot), SR g0 a t b g z → va_P D vwCl (rlW cA ad g z) H → va_D A (rlW cA ad g z) → va_S A s.heap H locs → lv_has ls 16 [(12, .int (nI 1)), (15, .int (nI 0)), (14, .int (nI 1)), (13, .int (nI 14)), (11, .int (nI 2147483647)), (10, .int (nI 2147483647)), (9, .int (nI 2147483647)), (8, .int (nI 2147483647)), (7, .int (nI 2147483647)), (6, .int (nI 2147483647)), (5, .int (nI 2)), (4, .int (nI (dfO g0 a a))), (3, .int (nI 2147483647)), (0, .ref (ad 70)), (1, .int (nI a)), (2, .int (nI b))] → W p l e rm_Lr s m args below meth c H locs 163 978 Q (F0 m 644 ls [])) : ∀ (g : Nat → Nat → Int32) (z : Nat → Nat) (H : Heap) (locs : List Loc) (ls : Array Slot), SR g0 a t b g z → va_P D vwCl (rlW cA ad g z) H → va_D A (rlW cA ad g z) → va_S A s.heap H locs → lv_has ls 16 [(12, .int (nI 1)), (15, .int (nI 0)), (14, .int (nI 1)), (13, .int (nI 13)), (11, .int (nI 2147483647)), (10, .int (nI 2147483647)), (9, .int (nI 2147483647)), (8, .int (nI 2147483647)), (7, .int (nI 2147483647)), (6, .int (nI 2147483647)), (5, .int (nI 2)), (4, .int (nI (dfO g0 a a))), (3, .int (nI 2147483647)), (0, .ref (ad 70)), (1, .int (nI a)), (2, .int (nI b))] → W p l e rm_Lr s m args below meth c H locs 162 972 Q (F0 m 637 ls []) := by
  intro g z H locs ls hs hP hD hS hl
  refine lv_iload C.hx C.hb dL_refuses_637 (lv_at hl 3 rfl) ?_
  refine lv_bipush (v := nI 15) C.hx C.hb dL_refuses_639 (by decide +kernel) ?_
  refine lv_icmp_eq (tgt := 658) C.hx C.hb dL_refuses_641 (by decide) (fun c9 => absurd c9 (by decide +kernel)) (fun _ => ?_)
  refine lv_iload C.hx C.hb dL_refuses_644 (lv_at hl 3 rfl) ?_
  refine lv_bipush (v := nI 16) C.hx C.hb dL_refuses_646 (by decide +kernel) ?_
  refine lv_icmp_eq (tgt := 658) C.hx C.hb dL_refuses_648 (by decide) (fun c9 => absurd c9 (by decide +kernel)) (fun _ => ?_)
  refine lv_iload C.hx C.hb dL_refuses_651 (lv_at hl 3 rfl) ?_
  refine lv_bipush (v := nI 18) C.hx C.hb dL_refuses_653 (by decide +kernel) ?_
  refine lv_icmp_ne (tgt := 681) C.hx C.hb dL_refuses_655 (by decide) (fun _ => ?_) (fun c9 => absurd c9 (by decide +kernel))
  refine lv_iinc (v := nI 14) (lv' := [(13, .int (nI 14)), (12, .int (nI 1)), (15, .int (nI 0)), (14, .int (nI 1)), (11, .int (nI 2147483647)), (10, .int (nI 2147483647)), (9, .int (nI 2147483647)), (8, .int (nI 2147483647)), (7, .int (nI 2147483647)), (6, .int (nI 2147483647)), (5, .int (nI 2)), (4, .int (nI (dfO g0 a a))), (3, .int (nI 2147483647)), (0, .ref (ad 70)), (1, .int (nI a)), (2, .int (nI b))]) C.hx C.hb dL_refuses_681 hl (k := 3) rfl (by decide +kernel) (by decide) rfl (fun ls hl => ?_)
  refine lv_goto (tgt := 459) C.hx C.hb dL_refuses_684 (by decide) ?_
  refine lv_iload C.hx C.hb dL_refuses_459 (lv_at hl 0 rfl) ?_
  refine lv_bipush (v := nI 20) C.hx C.hb dL_refuses_461 (by decide +kernel) ?_
  refine lv_icmp_ge (tgt := 687) C.hx C.hb dL_refuses_463 (by decide) (fun c9 => absurd c9 (by decide +kernel)) (fun _ => ?_)
  refine lv_iload C.hx C.hb dL_refuses_466 (lv_at hl 1 rfl) ?_
  refine lv_if_eq (tgt := 687) C.hx C.hb dL_refuses_468 (by decide) (fun c9 => absurd c9 (by decide +kernel)) (fun _ => ?_)
  refine lv_iload C.hx C.hb dL_refuses_471 (lv_at hl 0 rfl) ?_
  refine lv_iconst (v := nI 4) C.hx C.hb dL_refuses_473 (by decide +kernel) ?_
  refine lv_icmp_lt (tgt := 497) C.hx C.hb dL_refuses_474 (by decide) (fun c9 => absurd c9 (by decide +kernel)) (fun _ => ?_)
  refine lv_iload C.hx C.hb dL_refuses_477 (lv_at hl 0 rfl) ?_
  refine lv_iconst (v := nI 5) C.hx C.hb dL_refuses_479 (by decide +kernel) ?_
  refine lv_icmp_le (tgt := 490) C.hx C.hb dL_refuses_480 (by decide) (fun c9 => absurd c9 (by decide +kernel)) (fun _ => ?_)
  refine lv_iload C.hx C.hb dL_refuses_483 (lv_at hl 0 rfl) ?_
  refine lv_bipush (v := nI 15) C.hx C.hb dL_refuses_485 (by decide +kernel) ?_
  refine lv_icmp_lt (tgt := 497) C.hx C.hb dL_refuses_487 (by decide) (fun _ => ?_) (fun c9 => absurd c9 (by decide +kernel))
  refine lv_iconst (v := nI 1) C.hx C.hb dL_refuses_497 (by decide +kernel) ?_
  refine lv_goto (tgt := 502) C.hx C.hb dL_refuses_498 (by decide) ?_
  refine lv_istore (lv' := [(14, .int (nI 1)), (13, .int (nI 14)), (12, .int (nI 1)), (15, .int (nI 0)), (11, .int (nI 2147483647)), (10, .int (nI 2147483647)), (9, .int (nI 2147483647)), (8, .int (nI 2147483647)), (7, .int (nI 2147483647)), (6, .int (nI 2147483647)), (5, .int (nI 2)), (4, .int (nI (dfO g0 a a))), (3, .int (nI 2147483647)), (0, .ref (ad 70)), (1, .int (nI a)), (2, .int (nI b))]) C.hx C.hb dL_refuses_502 hl (by decide) rfl (fun ls hl => ?_)
  refine lv_iload C.hx C.hb dL_refuses_504 (lv_at hl 1 rfl) ?_
  refine lv_iconst (v := nI 3) C.hx C.hb dL_refuses_506 (by decide +kernel) ?_
  refine lv_icmp_eq (tgt := 531) C.hx C.hb dL_refuses_507 (by decide) (fun c9 => absurd c9 (by decide +kernel)) (fun _ => ?_)
  refine lv_iload C.hx C.hb dL_refuses_510 (lv_at hl 1 rfl) ?_
  refine lv_bipush (v := nI 7) C.hx C.hb dL_refuses_512 (by decide +kernel) ?_
  refine lv_icmp_le (tgt := 524) C.hx C.hb dL_refuses_514 (by decide) (fun c9 => absurd c9 (by decide +kernel)) (fun _ => ?_)
  refine lv_iload C.hx C.hb dL_refuses_517 (lv_at hl 1 rfl) ?_
  refine lv_bipush (v := nI 13) C.hx C.hb dL_refuses_519 (by decide +kernel) ?_
  refine lv_icmp_lt (tgt := 531) C.hx C.hb dL_refuses_521 (by decide) (fun c9 => absurd c9 (by decide +kernel)) (fun _ => ?_)
  refine lv_iload C.hx C.hb dL_refuses_524 (lv_at hl 1 rfl) ?_
  refine lv_bipush (v := nI 19) C.hx C.hb dL_refuses_526 (by decide +kernel) ?_
  refine lv_icmp_ne (tgt := 535) C.hx C.hb dL_refuses_528 (by decide) (fun _ => ?_) (fun c9 => absurd c9 (by decide +kernel))
  refine lv_iconst (v := nI 0) C.hx C.hb dL_refuses_535 (by decide +kernel) ?_
  refine lv_istore (lv' := [(15, .int (nI 0)), (14, .int (nI 1)), (13, .int (nI 14)), (12, .int (nI 1)), (11, .int (nI 2147483647)), (10, .int (nI 2147483647)), (9, .int (nI 2147483647)), (8, .int (nI 2147483647)), (7, .int (nI 2147483647)), (6, .int (nI 2147483647)), (5, .int (nI 2)), (4, .int (nI (dfO g0 a a))), (3, .int (nI 2147483647)), (0, .ref (ad 70)), (1, .int (nI a)), (2, .int (nI b))]) C.hx C.hb dL_refuses_536 hl (by decide) rfl (fun ls hl => ?_)
  refine lv_iload C.hx C.hb dL_refuses_538 (lv_at hl 1 rfl) ?_
  refine lv_if_eq (tgt := 567) C.hx C.hb dL_refuses_540 (by decide) (fun c9 => absurd c9 (by decide +kernel)) (fun _ => ?_)
  refine lv_aload_n C.hx C.hb dL_refuses_543 rfl (lv_at hl 13 rfl) ?_
  refine lv_iload C.hx C.hb dL_refuses_544 (lv_at hl 2 rfl) ?_
  refine lv_iload C.hx C.hb dL_refuses_546 (lv_at hl 7 rfl) ?_
  refine lv_iconst (v := nI 0) C.hx C.hb dL_refuses_548 (by decide +kernel) ?_
  refine lv_bipush (v := nI 99) C.hx C.hb dL_refuses_549 (by decide +kernel) ?_
  refine lv_iconst (v := nI 0) C.hx C.hb dL_refuses_551 (by decide +kernel) ?_
  refine q_cR (w := 14) (p0 := nI 2147483647) (p1 := nI 0) (p2 := nI 99) (p3 := nI 0) (r := -7000001) (c2 := 163) (s2 := 978) C hs hP hD hS (ri_person C.htr (notr (by decide +kernel) (by omega))) hl rfl (Nat.le_of_ble_eq_true rfl) ⟨Nat.le_of_ble_eq_true rfl, Nat.le_of_ble_eq_true rfl⟩ ⟨Nat.le_of_ble_eq_true rfl, Nat.le_of_ble_eq_true rfl⟩ ⟨Nat.le_of_ble_eq_true rfl, Nat.le_of_ble_eq_true rfl⟩ dL_refuses_552 (fun g z H locs hs hP hD hS => ?_)
  refine lv_ldc (v := -7000001) C.hx C.hb C.hown (C.hT.use kk_L_90 args) dL_refuses_555 ?_
  refine lv_icmp_ne (tgt := 564) C.hx C.hb dL_refuses_557 (by decide) (fun c9 => absurd c9 (by decide +kernel)) (fun _ => ?_)
  refine lv_iconst (v := nI 1) C.hx C.hb dL_refuses_560 (by decide +kernel) ?_
  refine lv_goto (tgt := 565) C.hx C.hb dL_refuses_561 (by decide) ?_
  refine lv_istore (lv' := [(12, .int (nI 1)), (15, .int (nI 0)), (14, .int (nI 1)), (13, .int (nI 14)), (11, .int (nI 2147483647)), (10, .int (nI 2147483647)), (9, .int (nI 2147483647)), (8, .int (nI 2147483647)), (7, .int (nI 2147483647)), (6, .int (nI 2147483647)), (5, .int (nI 2)), (4, .int (nI (dfO g0 a a))), (3, .int (nI 2147483647)), (0, .ref (ad 70)), (1, .int (nI a)), (2, .int (nI b))]) C.hx C.hb dL_refuses_565 hl (by decide) rfl (fun ls hl => ?_)
  refine lv_iload C.hx C.hb dL_refuses_567 (lv_at hl 1 rfl) ?_
  refine lv_if_eq (tgt := 637) C.hx C.hb dL_refuses_569 (by decide) (fun _ => ?_) (fun c9 => absurd c9 (by decide +kernel))
  refine lv_iload C.hx C.hb dL_refuses_637 (lv_at hl 3 rfl) ?_
  refine lv_bipush (v := nI 15) C.hx C.hb dL_refuses_639 (by decide +kernel) ?_
  refine lv_icmp_eq (tgt := 658) C.hx C.hb dL_refuses_641 (by decide) (fun c9 => absurd c9 (by decide +kernel)) (fun _ => ?_)
  exact kk g z H locs ls hs hP hD hS hl

set_option maxRecDepth 100000 in
set_option maxHeartbeats 4000000 in
theorem tf_74 {p : Program} {l : Launch} {e : Env} {s : State} {m : MethodId} {args : Array Value} {below : List Frame} {meth : Method} {c : Code} {D : va_G} {cA : ClassId} {A : Nat → Prop} {ad : Nat → Nat} {Q : State → Prop} {g0 : Nat → Nat → Int32} {a t b : Nat} (ha : a ≤ 16) (hb9 : b ≤ 40) (hab : 0 < a → 0 < b) (C : lcx p l s m c cL_refuses 16 D cA A) (kk : ∀ (g : Nat → Nat → Int32) (z : Nat → Nat) (H : Heap) (locs : List Loc) (ls : Array Slot), SR g0 a t b g z → va_P D vwCl (rlW cA ad g z) H → va_D A (rlW cA ad g z) → va_S A s.heap H locs → lv_has ls 16 [(13, .int (nI 16)), (12, .int (nI 1)), (15, .int (nI 0)), (14, .int (nI 0)), (11, .int (nI 2147483647)), (10, .int (nI 2147483647)), (9, .int (nI 2147483647)), (8, .int (nI 2147483647)), (7, .int (nI 2147483647)), (6, .int (nI 2147483647)), (5, .int (nI 2)), (4, .int (nI (dfO g0 a a))), (3, .int (nI 2147483647)), (0, .ref (ad 70)), (1, .int (nI a)), (2, .int (nI b))] → W p l e rm_Lr s m args below meth c H locs 164 984 Q (F0 m 684 ls [])) : ∀ (g : Nat → Nat → Int32) (z : Nat → Nat) (H : Heap) (locs : List Loc) (ls : Array Slot), SR g0 a t b g z → va_P D vwCl (rlW cA ad g z) H → va_D A (rlW cA ad g z) → va_S A s.heap H locs → lv_has ls 16 [(12, .int (nI 1)), (15, .int (nI 0)), (14, .int (nI 1)), (13, .int (nI 14)), (11, .int (nI 2147483647)), (10, .int (nI 2147483647)), (9, .int (nI 2147483647)), (8, .int (nI 2147483647)), (7, .int (nI 2147483647)), (6, .int (nI 2147483647)), (5, .int (nI 2)), (4, .int (nI (dfO g0 a a))), (3, .int (nI 2147483647)), (0, .ref (ad 70)), (1, .int (nI a)), (2, .int (nI b))] → W p l e rm_Lr s m args below meth c H locs 163 978 Q (F0 m 644 ls []) := by
  intro g z H locs ls hs hP hD hS hl
  refine lv_iload C.hx C.hb dL_refuses_644 (lv_at hl 3 rfl) ?_
  refine lv_bipush (v := nI 16) C.hx C.hb dL_refuses_646 (by decide +kernel) ?_
  refine lv_icmp_eq (tgt := 658) C.hx C.hb dL_refuses_648 (by decide) (fun c9 => absurd c9 (by decide +kernel)) (fun _ => ?_)
  refine lv_iload C.hx C.hb dL_refuses_651 (lv_at hl 3 rfl) ?_
  refine lv_bipush (v := nI 18) C.hx C.hb dL_refuses_653 (by decide +kernel) ?_
  refine lv_icmp_ne (tgt := 681) C.hx C.hb dL_refuses_655 (by decide) (fun _ => ?_) (fun c9 => absurd c9 (by decide +kernel))
  refine lv_iinc (v := nI 15) (lv' := [(13, .int (nI 15)), (12, .int (nI 1)), (15, .int (nI 0)), (14, .int (nI 1)), (11, .int (nI 2147483647)), (10, .int (nI 2147483647)), (9, .int (nI 2147483647)), (8, .int (nI 2147483647)), (7, .int (nI 2147483647)), (6, .int (nI 2147483647)), (5, .int (nI 2)), (4, .int (nI (dfO g0 a a))), (3, .int (nI 2147483647)), (0, .ref (ad 70)), (1, .int (nI a)), (2, .int (nI b))]) C.hx C.hb dL_refuses_681 hl (k := 3) rfl (by decide +kernel) (by decide) rfl (fun ls hl => ?_)
  refine lv_goto (tgt := 459) C.hx C.hb dL_refuses_684 (by decide) ?_
  refine lv_iload C.hx C.hb dL_refuses_459 (lv_at hl 0 rfl) ?_
  refine lv_bipush (v := nI 20) C.hx C.hb dL_refuses_461 (by decide +kernel) ?_
  refine lv_icmp_ge (tgt := 687) C.hx C.hb dL_refuses_463 (by decide) (fun c9 => absurd c9 (by decide +kernel)) (fun _ => ?_)
  refine lv_iload C.hx C.hb dL_refuses_466 (lv_at hl 1 rfl) ?_
  refine lv_if_eq (tgt := 687) C.hx C.hb dL_refuses_468 (by decide) (fun c9 => absurd c9 (by decide +kernel)) (fun _ => ?_)
  refine lv_iload C.hx C.hb dL_refuses_471 (lv_at hl 0 rfl) ?_
  refine lv_iconst (v := nI 4) C.hx C.hb dL_refuses_473 (by decide +kernel) ?_
  refine lv_icmp_lt (tgt := 497) C.hx C.hb dL_refuses_474 (by decide) (fun c9 => absurd c9 (by decide +kernel)) (fun _ => ?_)
  refine lv_iload C.hx C.hb dL_refuses_477 (lv_at hl 0 rfl) ?_
  refine lv_iconst (v := nI 5) C.hx C.hb dL_refuses_479 (by decide +kernel) ?_
  refine lv_icmp_le (tgt := 490) C.hx C.hb dL_refuses_480 (by decide) (fun c9 => absurd c9 (by decide +kernel)) (fun _ => ?_)
  refine lv_iload C.hx C.hb dL_refuses_483 (lv_at hl 0 rfl) ?_
  refine lv_bipush (v := nI 15) C.hx C.hb dL_refuses_485 (by decide +kernel) ?_
  refine lv_icmp_lt (tgt := 497) C.hx C.hb dL_refuses_487 (by decide) (fun c9 => absurd c9 (by decide +kernel)) (fun _ => ?_)
  refine lv_iload C.hx C.hb dL_refuses_490 (lv_at hl 0 rfl) ?_
  refine lv_bipush (v := nI 19) C.hx C.hb dL_refuses_492 (by decide +kernel) ?_
  refine lv_icmp_ne (tgt := 501) C.hx C.hb dL_refuses_494 (by decide) (fun _ => ?_) (fun c9 => absurd c9 (by decide +kernel))
  refine lv_iconst (v := nI 0) C.hx C.hb dL_refuses_501 (by decide +kernel) ?_
  refine lv_istore (lv' := [(14, .int (nI 0)), (13, .int (nI 15)), (12, .int (nI 1)), (15, .int (nI 0)), (11, .int (nI 2147483647)), (10, .int (nI 2147483647)), (9, .int (nI 2147483647)), (8, .int (nI 2147483647)), (7, .int (nI 2147483647)), (6, .int (nI 2147483647)), (5, .int (nI 2)), (4, .int (nI (dfO g0 a a))), (3, .int (nI 2147483647)), (0, .ref (ad 70)), (1, .int (nI a)), (2, .int (nI b))]) C.hx C.hb dL_refuses_502 hl (by decide) rfl (fun ls hl => ?_)
  refine lv_iload C.hx C.hb dL_refuses_504 (lv_at hl 1 rfl) ?_
  refine lv_iconst (v := nI 3) C.hx C.hb dL_refuses_506 (by decide +kernel) ?_
  refine lv_icmp_eq (tgt := 531) C.hx C.hb dL_refuses_507 (by decide) (fun c9 => absurd c9 (by decide +kernel)) (fun _ => ?_)
  refine lv_iload C.hx C.hb dL_refuses_510 (lv_at hl 1 rfl) ?_
  refine lv_bipush (v := nI 7) C.hx C.hb dL_refuses_512 (by decide +kernel) ?_
  refine lv_icmp_le (tgt := 524) C.hx C.hb dL_refuses_514 (by decide) (fun c9 => absurd c9 (by decide +kernel)) (fun _ => ?_)
  refine lv_iload C.hx C.hb dL_refuses_517 (lv_at hl 1 rfl) ?_
  refine lv_bipush (v := nI 13) C.hx C.hb dL_refuses_519 (by decide +kernel) ?_
  refine lv_icmp_lt (tgt := 531) C.hx C.hb dL_refuses_521 (by decide) (fun c9 => absurd c9 (by decide +kernel)) (fun _ => ?_)
  refine lv_iload C.hx C.hb dL_refuses_524 (lv_at hl 1 rfl) ?_
  refine lv_bipush (v := nI 19) C.hx C.hb dL_refuses_526 (by decide +kernel) ?_
  refine lv_icmp_ne (tgt := 535) C.hx C.hb dL_refuses_528 (by decide) (fun _ => ?_) (fun c9 => absurd c9 (by decide +kernel))
  refine lv_iconst (v := nI 0) C.hx C.hb dL_refuses_535 (by decide +kernel) ?_
  refine lv_istore (lv' := [(15, .int (nI 0)), (14, .int (nI 0)), (13, .int (nI 15)), (12, .int (nI 1)), (11, .int (nI 2147483647)), (10, .int (nI 2147483647)), (9, .int (nI 2147483647)), (8, .int (nI 2147483647)), (7, .int (nI 2147483647)), (6, .int (nI 2147483647)), (5, .int (nI 2)), (4, .int (nI (dfO g0 a a))), (3, .int (nI 2147483647)), (0, .ref (ad 70)), (1, .int (nI a)), (2, .int (nI b))]) C.hx C.hb dL_refuses_536 hl (by decide) rfl (fun ls hl => ?_)
  refine lv_iload C.hx C.hb dL_refuses_538 (lv_at hl 1 rfl) ?_
  refine lv_if_eq (tgt := 567) C.hx C.hb dL_refuses_540 (by decide) (fun _ => ?_) (fun c9 => absurd c9 (by decide +kernel))
  refine lv_iload C.hx C.hb dL_refuses_567 (lv_at hl 0 rfl) ?_
  refine lv_if_eq (tgt := 637) C.hx C.hb dL_refuses_569 (by decide) (fun _ => ?_) (fun c9 => absurd c9 (by decide +kernel))
  refine lv_iload C.hx C.hb dL_refuses_637 (lv_at hl 2 rfl) ?_
  refine lv_bipush (v := nI 15) C.hx C.hb dL_refuses_639 (by decide +kernel) ?_
  refine lv_icmp_eq (tgt := 658) C.hx C.hb dL_refuses_641 (by decide) (fun _ => ?_) (fun c9 => absurd c9 (by decide +kernel))
  refine lv_aload_n C.hx C.hb dL_refuses_658 rfl (lv_at hl 13 rfl) ?_
  refine lv_iload C.hx C.hb dL_refuses_659 (lv_at hl 2 rfl) ?_
  refine lv_iload C.hx C.hb dL_refuses_661 (lv_at hl 6 rfl) ?_
  refine lv_iconst (v := nI 0) C.hx C.hb dL_refuses_663 (by decide +kernel) ?_
  refine lv_iconst (v := nI 0) C.hx C.hb dL_refuses_664 (by decide +kernel) ?_
  refine lv_iconst (v := nI 0) C.hx C.hb dL_refuses_665 (by decide +kernel) ?_
  refine q_cR (w := 15) (p0 := nI 2147483647) (p1 := nI 0) (p2 := nI 0) (p3 := nI 0) (r := -7000001) (c2 := 164) (s2 := 984) C hs hP hD hS (ri_entry C.htr (notr (by decide +kernel) (by omega))) hl rfl (Nat.le_of_ble_eq_true rfl) ⟨Nat.le_of_ble_eq_true rfl, Nat.le_of_ble_eq_true rfl⟩ ⟨Nat.le_of_ble_eq_true rfl, Nat.le_of_ble_eq_true rfl⟩ ⟨Nat.le_of_ble_eq_true rfl, Nat.le_of_ble_eq_true rfl⟩ dL_refuses_666 (fun g z H locs hs hP hD hS => ?_)
  refine lv_ldc (v := -7000001) C.hx C.hb C.hown (C.hT.use kk_L_90 args) dL_refuses_669 ?_
  refine lv_icmp_ne (tgt := 678) C.hx C.hb dL_refuses_671 (by decide) (fun c9 => absurd c9 (by decide +kernel)) (fun _ => ?_)
  refine lv_iconst (v := nI 1) C.hx C.hb dL_refuses_674 (by decide +kernel) ?_
  refine lv_goto (tgt := 679) C.hx C.hb dL_refuses_675 (by decide) ?_
  refine lv_istore (lv' := [(12, .int (nI 1)), (15, .int (nI 0)), (14, .int (nI 0)), (13, .int (nI 15)), (11, .int (nI 2147483647)), (10, .int (nI 2147483647)), (9, .int (nI 2147483647)), (8, .int (nI 2147483647)), (7, .int (nI 2147483647)), (6, .int (nI 2147483647)), (5, .int (nI 2)), (4, .int (nI (dfO g0 a a))), (3, .int (nI 2147483647)), (0, .ref (ad 70)), (1, .int (nI a)), (2, .int (nI b))]) C.hx C.hb dL_refuses_679 hl (by decide) rfl (fun ls hl => ?_)
  refine lv_iinc (v := nI 16) (lv' := [(13, .int (nI 16)), (12, .int (nI 1)), (15, .int (nI 0)), (14, .int (nI 0)), (11, .int (nI 2147483647)), (10, .int (nI 2147483647)), (9, .int (nI 2147483647)), (8, .int (nI 2147483647)), (7, .int (nI 2147483647)), (6, .int (nI 2147483647)), (5, .int (nI 2)), (4, .int (nI (dfO g0 a a))), (3, .int (nI 2147483647)), (0, .ref (ad 70)), (1, .int (nI a)), (2, .int (nI b))]) C.hx C.hb dL_refuses_681 hl (k := 3) rfl (by decide +kernel) (by decide) rfl (fun ls hl => ?_)
  exact kk g z H locs ls hs hP hD hS hl

set_option maxRecDepth 100000 in
set_option maxHeartbeats 4000000 in
theorem tf_75 {p : Program} {l : Launch} {e : Env} {s : State} {m : MethodId} {args : Array Value} {below : List Frame} {meth : Method} {c : Code} {D : va_G} {cA : ClassId} {A : Nat → Prop} {ad : Nat → Nat} {Q : State → Prop} {g0 : Nat → Nat → Int32} {a t b : Nat} (ha : a ≤ 16) (hb9 : b ≤ 40) (hab : 0 < a → 0 < b) (C : lcx p l s m c cL_refuses 16 D cA A) (kk : ∀ (g : Nat → Nat → Int32) (z : Nat → Nat) (H : Heap) (locs : List Loc) (ls : Array Slot), SR g0 a t b g z → va_P D vwCl (rlW cA ad g z) H → va_D A (rlW cA ad g z) → va_S A s.heap H locs → lv_has ls 16 [(13, .int (nI 17)), (12, .int (nI 1)), (15, .int (nI 0)), (14, .int (nI 0)), (11, .int (nI 2147483647)), (10, .int (nI 2147483647)), (9, .int (nI 2147483647)), (8, .int (nI 2147483647)), (7, .int (nI 2147483647)), (6, .int (nI 2147483647)), (5, .int (nI 2)), (4, .int (nI (dfO g0 a a))), (3, .int (nI 2147483647)), (0, .ref (ad 70)), (1, .int (nI a)), (2, .int (nI b))] → W p l e rm_Lr s m args below meth c H locs 165 990 Q (F0 m 466 ls [])) : ∀ (g : Nat → Nat → Int32) (z : Nat → Nat) (H : Heap) (locs : List Loc) (ls : Array Slot), SR g0 a t b g z → va_P D vwCl (rlW cA ad g z) H → va_D A (rlW cA ad g z) → va_S A s.heap H locs → lv_has ls 16 [(13, .int (nI 16)), (12, .int (nI 1)), (15, .int (nI 0)), (14, .int (nI 0)), (11, .int (nI 2147483647)), (10, .int (nI 2147483647)), (9, .int (nI 2147483647)), (8, .int (nI 2147483647)), (7, .int (nI 2147483647)), (6, .int (nI 2147483647)), (5, .int (nI 2)), (4, .int (nI (dfO g0 a a))), (3, .int (nI 2147483647)), (0, .ref (ad 70)), (1, .int (nI a)), (2, .int (nI b))] → W p l e rm_Lr s m args below meth c H locs 164 984 Q (F0 m 684 ls []) := by
  intro g z H locs ls hs hP hD hS hl
  refine lv_goto (tgt := 459) C.hx C.hb dL_refuses_684 (by decide) ?_
  refine lv_iload C.hx C.hb dL_refuses_459 (lv_at hl 0 rfl) ?_
  refine lv_bipush (v := nI 20) C.hx C.hb dL_refuses_461 (by decide +kernel) ?_
  refine lv_icmp_ge (tgt := 687) C.hx C.hb dL_refuses_463 (by decide) (fun c9 => absurd c9 (by decide +kernel)) (fun _ => ?_)
  refine lv_iload C.hx C.hb dL_refuses_466 (lv_at hl 1 rfl) ?_
  refine lv_if_eq (tgt := 687) C.hx C.hb dL_refuses_468 (by decide) (fun c9 => absurd c9 (by decide +kernel)) (fun _ => ?_)
  refine lv_iload C.hx C.hb dL_refuses_471 (lv_at hl 0 rfl) ?_
  refine lv_iconst (v := nI 4) C.hx C.hb dL_refuses_473 (by decide +kernel) ?_
  refine lv_icmp_lt (tgt := 497) C.hx C.hb dL_refuses_474 (by decide) (fun c9 => absurd c9 (by decide +kernel)) (fun _ => ?_)
  refine lv_iload C.hx C.hb dL_refuses_477 (lv_at hl 0 rfl) ?_
  refine lv_iconst (v := nI 5) C.hx C.hb dL_refuses_479 (by decide +kernel) ?_
  refine lv_icmp_le (tgt := 490) C.hx C.hb dL_refuses_480 (by decide) (fun c9 => absurd c9 (by decide +kernel)) (fun _ => ?_)
  refine lv_iload C.hx C.hb dL_refuses_483 (lv_at hl 0 rfl) ?_
  refine lv_bipush (v := nI 15) C.hx C.hb dL_refuses_485 (by decide +kernel) ?_
  refine lv_icmp_lt (tgt := 497) C.hx C.hb dL_refuses_487 (by decide) (fun c9 => absurd c9 (by decide +kernel)) (fun _ => ?_)
  refine lv_iload C.hx C.hb dL_refuses_490 (lv_at hl 0 rfl) ?_
  refine lv_bipush (v := nI 19) C.hx C.hb dL_refuses_492 (by decide +kernel) ?_
  refine lv_icmp_ne (tgt := 501) C.hx C.hb dL_refuses_494 (by decide) (fun _ => ?_) (fun c9 => absurd c9 (by decide +kernel))
  refine lv_iconst (v := nI 0) C.hx C.hb dL_refuses_501 (by decide +kernel) ?_
  refine lv_istore (lv' := [(14, .int (nI 0)), (13, .int (nI 16)), (12, .int (nI 1)), (15, .int (nI 0)), (11, .int (nI 2147483647)), (10, .int (nI 2147483647)), (9, .int (nI 2147483647)), (8, .int (nI 2147483647)), (7, .int (nI 2147483647)), (6, .int (nI 2147483647)), (5, .int (nI 2)), (4, .int (nI (dfO g0 a a))), (3, .int (nI 2147483647)), (0, .ref (ad 70)), (1, .int (nI a)), (2, .int (nI b))]) C.hx C.hb dL_refuses_502 hl (by decide) rfl (fun ls hl => ?_)
  refine lv_iload C.hx C.hb dL_refuses_504 (lv_at hl 1 rfl) ?_
  refine lv_iconst (v := nI 3) C.hx C.hb dL_refuses_506 (by decide +kernel) ?_
  refine lv_icmp_eq (tgt := 531) C.hx C.hb dL_refuses_507 (by decide) (fun c9 => absurd c9 (by decide +kernel)) (fun _ => ?_)
  refine lv_iload C.hx C.hb dL_refuses_510 (lv_at hl 1 rfl) ?_
  refine lv_bipush (v := nI 7) C.hx C.hb dL_refuses_512 (by decide +kernel) ?_
  refine lv_icmp_le (tgt := 524) C.hx C.hb dL_refuses_514 (by decide) (fun c9 => absurd c9 (by decide +kernel)) (fun _ => ?_)
  refine lv_iload C.hx C.hb dL_refuses_517 (lv_at hl 1 rfl) ?_
  refine lv_bipush (v := nI 13) C.hx C.hb dL_refuses_519 (by decide +kernel) ?_
  refine lv_icmp_lt (tgt := 531) C.hx C.hb dL_refuses_521 (by decide) (fun c9 => absurd c9 (by decide +kernel)) (fun _ => ?_)
  refine lv_iload C.hx C.hb dL_refuses_524 (lv_at hl 1 rfl) ?_
  refine lv_bipush (v := nI 19) C.hx C.hb dL_refuses_526 (by decide +kernel) ?_
  refine lv_icmp_ne (tgt := 535) C.hx C.hb dL_refuses_528 (by decide) (fun _ => ?_) (fun c9 => absurd c9 (by decide +kernel))
  refine lv_iconst (v := nI 0) C.hx C.hb dL_refuses_535 (by decide +kernel) ?_
  refine lv_istore (lv' := [(15, .int (nI 0)), (14, .int (nI 0)), (13, .int (nI 16)), (12, .int (nI 1)), (11, .int (nI 2147483647)), (10, .int (nI 2147483647)), (9, .int (nI 2147483647)), (8, .int (nI 2147483647)), (7, .int (nI 2147483647)), (6, .int (nI 2147483647)), (5, .int (nI 2)), (4, .int (nI (dfO g0 a a))), (3, .int (nI 2147483647)), (0, .ref (ad 70)), (1, .int (nI a)), (2, .int (nI b))]) C.hx C.hb dL_refuses_536 hl (by decide) rfl (fun ls hl => ?_)
  refine lv_iload C.hx C.hb dL_refuses_538 (lv_at hl 1 rfl) ?_
  refine lv_if_eq (tgt := 567) C.hx C.hb dL_refuses_540 (by decide) (fun _ => ?_) (fun c9 => absurd c9 (by decide +kernel))
  refine lv_iload C.hx C.hb dL_refuses_567 (lv_at hl 0 rfl) ?_
  refine lv_if_eq (tgt := 637) C.hx C.hb dL_refuses_569 (by decide) (fun _ => ?_) (fun c9 => absurd c9 (by decide +kernel))
  refine lv_iload C.hx C.hb dL_refuses_637 (lv_at hl 2 rfl) ?_
  refine lv_bipush (v := nI 15) C.hx C.hb dL_refuses_639 (by decide +kernel) ?_
  refine lv_icmp_eq (tgt := 658) C.hx C.hb dL_refuses_641 (by decide) (fun c9 => absurd c9 (by decide +kernel)) (fun _ => ?_)
  refine lv_iload C.hx C.hb dL_refuses_644 (lv_at hl 2 rfl) ?_
  refine lv_bipush (v := nI 16) C.hx C.hb dL_refuses_646 (by decide +kernel) ?_
  refine lv_icmp_eq (tgt := 658) C.hx C.hb dL_refuses_648 (by decide) (fun _ => ?_) (fun c9 => absurd c9 (by decide +kernel))
  refine lv_aload_n C.hx C.hb dL_refuses_658 rfl (lv_at hl 13 rfl) ?_
  refine lv_iload C.hx C.hb dL_refuses_659 (lv_at hl 2 rfl) ?_
  refine lv_iload C.hx C.hb dL_refuses_661 (lv_at hl 6 rfl) ?_
  refine lv_iconst (v := nI 0) C.hx C.hb dL_refuses_663 (by decide +kernel) ?_
  refine lv_iconst (v := nI 0) C.hx C.hb dL_refuses_664 (by decide +kernel) ?_
  refine lv_iconst (v := nI 0) C.hx C.hb dL_refuses_665 (by decide +kernel) ?_
  refine q_cR (w := 16) (p0 := nI 2147483647) (p1 := nI 0) (p2 := nI 0) (p3 := nI 0) (r := -7000001) (c2 := 165) (s2 := 990) C hs hP hD hS (ri_size C.htr (notr (by decide +kernel) (by omega))) hl rfl (Nat.le_of_ble_eq_true rfl) ⟨Nat.le_of_ble_eq_true rfl, Nat.le_of_ble_eq_true rfl⟩ ⟨Nat.le_of_ble_eq_true rfl, Nat.le_of_ble_eq_true rfl⟩ ⟨Nat.le_of_ble_eq_true rfl, Nat.le_of_ble_eq_true rfl⟩ dL_refuses_666 (fun g z H locs hs hP hD hS => ?_)
  refine lv_ldc (v := -7000001) C.hx C.hb C.hown (C.hT.use kk_L_90 args) dL_refuses_669 ?_
  refine lv_icmp_ne (tgt := 678) C.hx C.hb dL_refuses_671 (by decide) (fun c9 => absurd c9 (by decide +kernel)) (fun _ => ?_)
  refine lv_iconst (v := nI 1) C.hx C.hb dL_refuses_674 (by decide +kernel) ?_
  refine lv_goto (tgt := 679) C.hx C.hb dL_refuses_675 (by decide) ?_
  refine lv_istore (lv' := [(12, .int (nI 1)), (15, .int (nI 0)), (14, .int (nI 0)), (13, .int (nI 16)), (11, .int (nI 2147483647)), (10, .int (nI 2147483647)), (9, .int (nI 2147483647)), (8, .int (nI 2147483647)), (7, .int (nI 2147483647)), (6, .int (nI 2147483647)), (5, .int (nI 2)), (4, .int (nI (dfO g0 a a))), (3, .int (nI 2147483647)), (0, .ref (ad 70)), (1, .int (nI a)), (2, .int (nI b))]) C.hx C.hb dL_refuses_679 hl (by decide) rfl (fun ls hl => ?_)
  refine lv_iinc (v := nI 17) (lv' := [(13, .int (nI 17)), (12, .int (nI 1)), (15, .int (nI 0)), (14, .int (nI 0)), (11, .int (nI 2147483647)), (10, .int (nI 2147483647)), (9, .int (nI 2147483647)), (8, .int (nI 2147483647)), (7, .int (nI 2147483647)), (6, .int (nI 2147483647)), (5, .int (nI 2)), (4, .int (nI (dfO g0 a a))), (3, .int (nI 2147483647)), (0, .ref (ad 70)), (1, .int (nI a)), (2, .int (nI b))]) C.hx C.hb dL_refuses_681 hl (k := 3) rfl (by decide +kernel) (by decide) rfl (fun ls hl => ?_)
  refine lv_goto (tgt := 459) C.hx C.hb dL_refuses_684 (by decide) ?_
  refine lv_iload C.hx C.hb dL_refuses_459 (lv_at hl 0 rfl) ?_
  refine lv_bipush (v := nI 20) C.hx C.hb dL_refuses_461 (by decide +kernel) ?_
  refine lv_icmp_ge (tgt := 687) C.hx C.hb dL_refuses_463 (by decide) (fun c9 => absurd c9 (by decide +kernel)) (fun _ => ?_)
  exact kk g z H locs ls hs hP hD hS hl

set_option maxRecDepth 100000 in
set_option maxHeartbeats 4000000 in
theorem tf_76 {p : Program} {l : Launch} {e : Env} {s : State} {m : MethodId} {args : Array Value} {below : List Frame} {meth : Method} {c : Code} {D : va_G} {cA : ClassId} {A : Nat → Prop} {ad : Nat → Nat} {Q : State → Prop} {g0 : Nat → Nat → Int32} {a t b : Nat} (ha : a ≤ 16) (hb9 : b ≤ 40) (hab : 0 < a → 0 < b) (C : lcx p l s m c cL_refuses 16 D cA A) (kk : ∀ (g : Nat → Nat → Int32) (z : Nat → Nat) (H : Heap) (locs : List Loc) (ls : Array Slot), SR g0 a t b g z → va_P D vwCl (rlW cA ad g z) H → va_D A (rlW cA ad g z) → va_S A s.heap H locs → lv_has ls 16 [(13, .int (nI 18)), (15, .int (nI 0)), (14, .int (nI 0)), (12, .int (nI 1)), (11, .int (nI 2147483647)), (10, .int (nI 2147483647)), (9, .int (nI 2147483647)), (8, .int (nI 2147483647)), (7, .int (nI 2147483647)), (6, .int (nI 2147483647)), (5, .int (nI 2)), (4, .int (nI (dfO g0 a a))), (3, .int (nI 2147483647)), (0, .ref (ad 70)), (1, .int (nI a)), (2, .int (nI b))] → W p l e rm_Lr s m args below meth c H locs 165 990 Q (F0 m 501 ls [])) : ∀ (g : Nat → Nat → Int32) (z : Nat → Nat) (H : Heap) (locs : List Loc) (ls : Array Slot), SR g0 a t b g z → va_P D vwCl (rlW cA ad g z) H → va_D A (rlW cA ad g z) → va_S A s.heap H locs → lv_has ls 16 [(13, .int (nI 17)), (12, .int (nI 1)), (15, .int (nI 0)), (14, .int (nI 0)), (11, .int (nI 2147483647)), (10, .int (nI 2147483647)), (9, .int (nI 2147483647)), (8, .int (nI 2147483647)), (7, .int (nI 2147483647)), (6, .int (nI 2147483647)), (5, .int (nI 2)), (4, .int (nI (dfO g0 a a))), (3, .int (nI 2147483647)), (0, .ref (ad 70)), (1, .int (nI a)), (2, .int (nI b))] → W p l e rm_Lr s m args below meth c H locs 165 990 Q (F0 m 466 ls []) := by
  intro g z H locs ls hs hP hD hS hl
  refine lv_iload C.hx C.hb dL_refuses_466 (lv_at hl 1 rfl) ?_
  refine lv_if_eq (tgt := 687) C.hx C.hb dL_refuses_468 (by decide) (fun c9 => absurd c9 (by decide +kernel)) (fun _ => ?_)
  refine lv_iload C.hx C.hb dL_refuses_471 (lv_at hl 0 rfl) ?_
  refine lv_iconst (v := nI 4) C.hx C.hb dL_refuses_473 (by decide +kernel) ?_
  refine lv_icmp_lt (tgt := 497) C.hx C.hb dL_refuses_474 (by decide) (fun c9 => absurd c9 (by decide +kernel)) (fun _ => ?_)
  refine lv_iload C.hx C.hb dL_refuses_477 (lv_at hl 0 rfl) ?_
  refine lv_iconst (v := nI 5) C.hx C.hb dL_refuses_479 (by decide +kernel) ?_
  refine lv_icmp_le (tgt := 490) C.hx C.hb dL_refuses_480 (by decide) (fun c9 => absurd c9 (by decide +kernel)) (fun _ => ?_)
  refine lv_iload C.hx C.hb dL_refuses_483 (lv_at hl 0 rfl) ?_
  refine lv_bipush (v := nI 15) C.hx C.hb dL_refuses_485 (by decide +kernel) ?_
  refine lv_icmp_lt (tgt := 497) C.hx C.hb dL_refuses_487 (by decide) (fun c9 => absurd c9 (by decide +kernel)) (fun _ => ?_)
  refine lv_iload C.hx C.hb dL_refuses_490 (lv_at hl 0 rfl) ?_
  refine lv_bipush (v := nI 19) C.hx C.hb dL_refuses_492 (by decide +kernel) ?_
  refine lv_icmp_ne (tgt := 501) C.hx C.hb dL_refuses_494 (by decide) (fun _ => ?_) (fun c9 => absurd c9 (by decide +kernel))
  refine lv_iconst (v := nI 0) C.hx C.hb dL_refuses_501 (by decide +kernel) ?_
  refine lv_istore (lv' := [(14, .int (nI 0)), (13, .int (nI 17)), (12, .int (nI 1)), (15, .int (nI 0)), (11, .int (nI 2147483647)), (10, .int (nI 2147483647)), (9, .int (nI 2147483647)), (8, .int (nI 2147483647)), (7, .int (nI 2147483647)), (6, .int (nI 2147483647)), (5, .int (nI 2)), (4, .int (nI (dfO g0 a a))), (3, .int (nI 2147483647)), (0, .ref (ad 70)), (1, .int (nI a)), (2, .int (nI b))]) C.hx C.hb dL_refuses_502 hl (by decide) rfl (fun ls hl => ?_)
  refine lv_iload C.hx C.hb dL_refuses_504 (lv_at hl 1 rfl) ?_
  refine lv_iconst (v := nI 3) C.hx C.hb dL_refuses_506 (by decide +kernel) ?_
  refine lv_icmp_eq (tgt := 531) C.hx C.hb dL_refuses_507 (by decide) (fun c9 => absurd c9 (by decide +kernel)) (fun _ => ?_)
  refine lv_iload C.hx C.hb dL_refuses_510 (lv_at hl 1 rfl) ?_
  refine lv_bipush (v := nI 7) C.hx C.hb dL_refuses_512 (by decide +kernel) ?_
  refine lv_icmp_le (tgt := 524) C.hx C.hb dL_refuses_514 (by decide) (fun c9 => absurd c9 (by decide +kernel)) (fun _ => ?_)
  refine lv_iload C.hx C.hb dL_refuses_517 (lv_at hl 1 rfl) ?_
  refine lv_bipush (v := nI 13) C.hx C.hb dL_refuses_519 (by decide +kernel) ?_
  refine lv_icmp_lt (tgt := 531) C.hx C.hb dL_refuses_521 (by decide) (fun c9 => absurd c9 (by decide +kernel)) (fun _ => ?_)
  refine lv_iload C.hx C.hb dL_refuses_524 (lv_at hl 1 rfl) ?_
  refine lv_bipush (v := nI 19) C.hx C.hb dL_refuses_526 (by decide +kernel) ?_
  refine lv_icmp_ne (tgt := 535) C.hx C.hb dL_refuses_528 (by decide) (fun _ => ?_) (fun c9 => absurd c9 (by decide +kernel))
  refine lv_iconst (v := nI 0) C.hx C.hb dL_refuses_535 (by decide +kernel) ?_
  refine lv_istore (lv' := [(15, .int (nI 0)), (14, .int (nI 0)), (13, .int (nI 17)), (12, .int (nI 1)), (11, .int (nI 2147483647)), (10, .int (nI 2147483647)), (9, .int (nI 2147483647)), (8, .int (nI 2147483647)), (7, .int (nI 2147483647)), (6, .int (nI 2147483647)), (5, .int (nI 2)), (4, .int (nI (dfO g0 a a))), (3, .int (nI 2147483647)), (0, .ref (ad 70)), (1, .int (nI a)), (2, .int (nI b))]) C.hx C.hb dL_refuses_536 hl (by decide) rfl (fun ls hl => ?_)
  refine lv_iload C.hx C.hb dL_refuses_538 (lv_at hl 1 rfl) ?_
  refine lv_if_eq (tgt := 567) C.hx C.hb dL_refuses_540 (by decide) (fun _ => ?_) (fun c9 => absurd c9 (by decide +kernel))
  refine lv_iload C.hx C.hb dL_refuses_567 (lv_at hl 0 rfl) ?_
  refine lv_if_eq (tgt := 637) C.hx C.hb dL_refuses_569 (by decide) (fun _ => ?_) (fun c9 => absurd c9 (by decide +kernel))
  refine lv_iload C.hx C.hb dL_refuses_637 (lv_at hl 2 rfl) ?_
  refine lv_bipush (v := nI 15) C.hx C.hb dL_refuses_639 (by decide +kernel) ?_
  refine lv_icmp_eq (tgt := 658) C.hx C.hb dL_refuses_641 (by decide) (fun c9 => absurd c9 (by decide +kernel)) (fun _ => ?_)
  refine lv_iload C.hx C.hb dL_refuses_644 (lv_at hl 2 rfl) ?_
  refine lv_bipush (v := nI 16) C.hx C.hb dL_refuses_646 (by decide +kernel) ?_
  refine lv_icmp_eq (tgt := 658) C.hx C.hb dL_refuses_648 (by decide) (fun c9 => absurd c9 (by decide +kernel)) (fun _ => ?_)
  refine lv_iload C.hx C.hb dL_refuses_651 (lv_at hl 2 rfl) ?_
  refine lv_bipush (v := nI 18) C.hx C.hb dL_refuses_653 (by decide +kernel) ?_
  refine lv_icmp_ne (tgt := 681) C.hx C.hb dL_refuses_655 (by decide) (fun _ => ?_) (fun c9 => absurd c9 (by decide +kernel))
  refine lv_iinc (v := nI 18) (lv' := [(13, .int (nI 18)), (15, .int (nI 0)), (14, .int (nI 0)), (12, .int (nI 1)), (11, .int (nI 2147483647)), (10, .int (nI 2147483647)), (9, .int (nI 2147483647)), (8, .int (nI 2147483647)), (7, .int (nI 2147483647)), (6, .int (nI 2147483647)), (5, .int (nI 2)), (4, .int (nI (dfO g0 a a))), (3, .int (nI 2147483647)), (0, .ref (ad 70)), (1, .int (nI a)), (2, .int (nI b))]) C.hx C.hb dL_refuses_681 hl (k := 2) rfl (by decide +kernel) (by decide) rfl (fun ls hl => ?_)
  refine lv_goto (tgt := 459) C.hx C.hb dL_refuses_684 (by decide) ?_
  refine lv_iload C.hx C.hb dL_refuses_459 (lv_at hl 0 rfl) ?_
  refine lv_bipush (v := nI 20) C.hx C.hb dL_refuses_461 (by decide +kernel) ?_
  refine lv_icmp_ge (tgt := 687) C.hx C.hb dL_refuses_463 (by decide) (fun c9 => absurd c9 (by decide +kernel)) (fun _ => ?_)
  refine lv_iload C.hx C.hb dL_refuses_466 (lv_at hl 3 rfl) ?_
  refine lv_if_eq (tgt := 687) C.hx C.hb dL_refuses_468 (by decide) (fun c9 => absurd c9 (by decide +kernel)) (fun _ => ?_)
  refine lv_iload C.hx C.hb dL_refuses_471 (lv_at hl 0 rfl) ?_
  refine lv_iconst (v := nI 4) C.hx C.hb dL_refuses_473 (by decide +kernel) ?_
  refine lv_icmp_lt (tgt := 497) C.hx C.hb dL_refuses_474 (by decide) (fun c9 => absurd c9 (by decide +kernel)) (fun _ => ?_)
  refine lv_iload C.hx C.hb dL_refuses_477 (lv_at hl 0 rfl) ?_
  refine lv_iconst (v := nI 5) C.hx C.hb dL_refuses_479 (by decide +kernel) ?_
  refine lv_icmp_le (tgt := 490) C.hx C.hb dL_refuses_480 (by decide) (fun c9 => absurd c9 (by decide +kernel)) (fun _ => ?_)
  refine lv_iload C.hx C.hb dL_refuses_483 (lv_at hl 0 rfl) ?_
  refine lv_bipush (v := nI 15) C.hx C.hb dL_refuses_485 (by decide +kernel) ?_
  refine lv_icmp_lt (tgt := 497) C.hx C.hb dL_refuses_487 (by decide) (fun c9 => absurd c9 (by decide +kernel)) (fun _ => ?_)
  refine lv_iload C.hx C.hb dL_refuses_490 (lv_at hl 0 rfl) ?_
  refine lv_bipush (v := nI 19) C.hx C.hb dL_refuses_492 (by decide +kernel) ?_
  refine lv_icmp_ne (tgt := 501) C.hx C.hb dL_refuses_494 (by decide) (fun _ => ?_) (fun c9 => absurd c9 (by decide +kernel))
  exact kk g z H locs ls hs hP hD hS hl

set_option maxRecDepth 100000 in
set_option maxHeartbeats 4000000 in
theorem tf_77 {p : Program} {l : Launch} {e : Env} {s : State} {m : MethodId} {args : Array Value} {below : List Frame} {meth : Method} {c : Code} {D : va_G} {cA : ClassId} {A : Nat → Prop} {ad : Nat → Nat} {Q : State → Prop} {g0 : Nat → Nat → Int32} {a t b : Nat} (ha : a ≤ 16) (hb9 : b ≤ 40) (hab : 0 < a → 0 < b) (C : lcx p l s m c cL_refuses 16 D cA A) (kk : ∀ (g : Nat → Nat → Int32) (z : Nat → Nat) (H : Heap) (locs : List Loc) (ls : Array Slot), SR g0 a t b g z → va_P D vwCl (rlW cA ad g z) H → va_D A (rlW cA ad g z) → va_S A s.heap H locs → lv_has ls 16 [(14, .int (nI 1)), (13, .int (nI 19)), (12, .int (nI 1)), (15, .int (nI 0)), (11, .int (nI 2147483647)), (10, .int (nI 2147483647)), (9, .int (nI 2147483647)), (8, .int (nI 2147483647)), (7, .int (nI 2147483647)), (6, .int (nI 2147483647)), (5, .int (nI 2)), (4, .int (nI (dfO g0 a a))), (3, .int (nI 2147483647)), (0, .ref (ad 70)), (1, .int (nI a)), (2, .int (nI b))] → W p l e rm_Lr s m args below meth c H locs 166 996 Q (F0 m 504 ls [])) : ∀ (g : Nat → Nat → Int32) (z : Nat → Nat) (H : Heap) (locs : List Loc) (ls : Array Slot), SR g0 a t b g z → va_P D vwCl (rlW cA ad g z) H → va_D A (rlW cA ad g z) → va_S A s.heap H locs → lv_has ls 16 [(13, .int (nI 18)), (15, .int (nI 0)), (14, .int (nI 0)), (12, .int (nI 1)), (11, .int (nI 2147483647)), (10, .int (nI 2147483647)), (9, .int (nI 2147483647)), (8, .int (nI 2147483647)), (7, .int (nI 2147483647)), (6, .int (nI 2147483647)), (5, .int (nI 2)), (4, .int (nI (dfO g0 a a))), (3, .int (nI 2147483647)), (0, .ref (ad 70)), (1, .int (nI a)), (2, .int (nI b))] → W p l e rm_Lr s m args below meth c H locs 165 990 Q (F0 m 501 ls []) := by
  intro g z H locs ls hs hP hD hS hl
  refine lv_iconst (v := nI 0) C.hx C.hb dL_refuses_501 (by decide +kernel) ?_
  refine lv_istore (lv' := [(14, .int (nI 0)), (13, .int (nI 18)), (15, .int (nI 0)), (12, .int (nI 1)), (11, .int (nI 2147483647)), (10, .int (nI 2147483647)), (9, .int (nI 2147483647)), (8, .int (nI 2147483647)), (7, .int (nI 2147483647)), (6, .int (nI 2147483647)), (5, .int (nI 2)), (4, .int (nI (dfO g0 a a))), (3, .int (nI 2147483647)), (0, .ref (ad 70)), (1, .int (nI a)), (2, .int (nI b))]) C.hx C.hb dL_refuses_502 hl (by decide) rfl (fun ls hl => ?_)
  refine lv_iload C.hx C.hb dL_refuses_504 (lv_at hl 1 rfl) ?_
  refine lv_iconst (v := nI 3) C.hx C.hb dL_refuses_506 (by decide +kernel) ?_
  refine lv_icmp_eq (tgt := 531) C.hx C.hb dL_refuses_507 (by decide) (fun c9 => absurd c9 (by decide +kernel)) (fun _ => ?_)
  refine lv_iload C.hx C.hb dL_refuses_510 (lv_at hl 1 rfl) ?_
  refine lv_bipush (v := nI 7) C.hx C.hb dL_refuses_512 (by decide +kernel) ?_
  refine lv_icmp_le (tgt := 524) C.hx C.hb dL_refuses_514 (by decide) (fun c9 => absurd c9 (by decide +kernel)) (fun _ => ?_)
  refine lv_iload C.hx C.hb dL_refuses_517 (lv_at hl 1 rfl) ?_
  refine lv_bipush (v := nI 13) C.hx C.hb dL_refuses_519 (by decide +kernel) ?_
  refine lv_icmp_lt (tgt := 531) C.hx C.hb dL_refuses_521 (by decide) (fun c9 => absurd c9 (by decide +kernel)) (fun _ => ?_)
  refine lv_iload C.hx C.hb dL_refuses_524 (lv_at hl 1 rfl) ?_
  refine lv_bipush (v := nI 19) C.hx C.hb dL_refuses_526 (by decide +kernel) ?_
  refine lv_icmp_ne (tgt := 535) C.hx C.hb dL_refuses_528 (by decide) (fun _ => ?_) (fun c9 => absurd c9 (by decide +kernel))
  refine lv_iconst (v := nI 0) C.hx C.hb dL_refuses_535 (by decide +kernel) ?_
  refine lv_istore (lv' := [(15, .int (nI 0)), (14, .int (nI 0)), (13, .int (nI 18)), (12, .int (nI 1)), (11, .int (nI 2147483647)), (10, .int (nI 2147483647)), (9, .int (nI 2147483647)), (8, .int (nI 2147483647)), (7, .int (nI 2147483647)), (6, .int (nI 2147483647)), (5, .int (nI 2)), (4, .int (nI (dfO g0 a a))), (3, .int (nI 2147483647)), (0, .ref (ad 70)), (1, .int (nI a)), (2, .int (nI b))]) C.hx C.hb dL_refuses_536 hl (by decide) rfl (fun ls hl => ?_)
  refine lv_iload C.hx C.hb dL_refuses_538 (lv_at hl 1 rfl) ?_
  refine lv_if_eq (tgt := 567) C.hx C.hb dL_refuses_540 (by decide) (fun _ => ?_) (fun c9 => absurd c9 (by decide +kernel))
  refine lv_iload C.hx C.hb dL_refuses_567 (lv_at hl 0 rfl) ?_
  refine lv_if_eq (tgt := 637) C.hx C.hb dL_refuses_569 (by decide) (fun _ => ?_) (fun c9 => absurd c9 (by decide +kernel))
  refine lv_iload C.hx C.hb dL_refuses_637 (lv_at hl 2 rfl) ?_
  refine lv_bipush (v := nI 15) C.hx C.hb dL_refuses_639 (by decide +kernel) ?_
  refine lv_icmp_eq (tgt := 658) C.hx C.hb dL_refuses_641 (by decide) (fun c9 => absurd c9 (by decide +kernel)) (fun _ => ?_)
  refine lv_iload C.hx C.hb dL_refuses_644 (lv_at hl 2 rfl) ?_
  refine lv_bipush (v := nI 16) C.hx C.hb dL_refuses_646 (by decide +kernel) ?_
  refine lv_icmp_eq (tgt := 658) C.hx C.hb dL_refuses_648 (by decide) (fun c9 => absurd c9 (by decide +kernel)) (fun _ => ?_)
  refine lv_iload C.hx C.hb dL_refuses_651 (lv_at hl 2 rfl) ?_
  refine lv_bipush (v := nI 18) C.hx C.hb dL_refuses_653 (by decide +kernel) ?_
  refine lv_icmp_ne (tgt := 681) C.hx C.hb dL_refuses_655 (by decide) (fun c9 => absurd c9 (by decide +kernel)) (fun _ => ?_)
  refine lv_aload_n C.hx C.hb dL_refuses_658 rfl (lv_at hl 13 rfl) ?_
  refine lv_iload C.hx C.hb dL_refuses_659 (lv_at hl 2 rfl) ?_
  refine lv_iload C.hx C.hb dL_refuses_661 (lv_at hl 6 rfl) ?_
  refine lv_iconst (v := nI 0) C.hx C.hb dL_refuses_663 (by decide +kernel) ?_
  refine lv_iconst (v := nI 0) C.hx C.hb dL_refuses_664 (by decide +kernel) ?_
  refine lv_iconst (v := nI 0) C.hx C.hb dL_refuses_665 (by decide +kernel) ?_
  refine q_cR (w := 18) (p0 := nI 2147483647) (p1 := nI 0) (p2 := nI 0) (p3 := nI 0) (r := -7000001) (c2 := 166) (s2 := 996) C hs hP hD hS (ri_breaches C.htr (notr (by decide +kernel) (by omega))) hl rfl (Nat.le_of_ble_eq_true rfl) ⟨Nat.le_of_ble_eq_true rfl, Nat.le_of_ble_eq_true rfl⟩ ⟨Nat.le_of_ble_eq_true rfl, Nat.le_of_ble_eq_true rfl⟩ ⟨Nat.le_of_ble_eq_true rfl, Nat.le_of_ble_eq_true rfl⟩ dL_refuses_666 (fun g z H locs hs hP hD hS => ?_)
  refine lv_ldc (v := -7000001) C.hx C.hb C.hown (C.hT.use kk_L_90 args) dL_refuses_669 ?_
  refine lv_icmp_ne (tgt := 678) C.hx C.hb dL_refuses_671 (by decide) (fun c9 => absurd c9 (by decide +kernel)) (fun _ => ?_)
  refine lv_iconst (v := nI 1) C.hx C.hb dL_refuses_674 (by decide +kernel) ?_
  refine lv_goto (tgt := 679) C.hx C.hb dL_refuses_675 (by decide) ?_
  refine lv_istore (lv' := [(12, .int (nI 1)), (15, .int (nI 0)), (14, .int (nI 0)), (13, .int (nI 18)), (11, .int (nI 2147483647)), (10, .int (nI 2147483647)), (9, .int (nI 2147483647)), (8, .int (nI 2147483647)), (7, .int (nI 2147483647)), (6, .int (nI 2147483647)), (5, .int (nI 2)), (4, .int (nI (dfO g0 a a))), (3, .int (nI 2147483647)), (0, .ref (ad 70)), (1, .int (nI a)), (2, .int (nI b))]) C.hx C.hb dL_refuses_679 hl (by decide) rfl (fun ls hl => ?_)
  refine lv_iinc (v := nI 19) (lv' := [(13, .int (nI 19)), (12, .int (nI 1)), (15, .int (nI 0)), (14, .int (nI 0)), (11, .int (nI 2147483647)), (10, .int (nI 2147483647)), (9, .int (nI 2147483647)), (8, .int (nI 2147483647)), (7, .int (nI 2147483647)), (6, .int (nI 2147483647)), (5, .int (nI 2)), (4, .int (nI (dfO g0 a a))), (3, .int (nI 2147483647)), (0, .ref (ad 70)), (1, .int (nI a)), (2, .int (nI b))]) C.hx C.hb dL_refuses_681 hl (k := 3) rfl (by decide +kernel) (by decide) rfl (fun ls hl => ?_)
  refine lv_goto (tgt := 459) C.hx C.hb dL_refuses_684 (by decide) ?_
  refine lv_iload C.hx C.hb dL_refuses_459 (lv_at hl 0 rfl) ?_
  refine lv_bipush (v := nI 20) C.hx C.hb dL_refuses_461 (by decide +kernel) ?_
  refine lv_icmp_ge (tgt := 687) C.hx C.hb dL_refuses_463 (by decide) (fun c9 => absurd c9 (by decide +kernel)) (fun _ => ?_)
  refine lv_iload C.hx C.hb dL_refuses_466 (lv_at hl 1 rfl) ?_
  refine lv_if_eq (tgt := 687) C.hx C.hb dL_refuses_468 (by decide) (fun c9 => absurd c9 (by decide +kernel)) (fun _ => ?_)
  refine lv_iload C.hx C.hb dL_refuses_471 (lv_at hl 0 rfl) ?_
  refine lv_iconst (v := nI 4) C.hx C.hb dL_refuses_473 (by decide +kernel) ?_
  refine lv_icmp_lt (tgt := 497) C.hx C.hb dL_refuses_474 (by decide) (fun c9 => absurd c9 (by decide +kernel)) (fun _ => ?_)
  refine lv_iload C.hx C.hb dL_refuses_477 (lv_at hl 0 rfl) ?_
  refine lv_iconst (v := nI 5) C.hx C.hb dL_refuses_479 (by decide +kernel) ?_
  refine lv_icmp_le (tgt := 490) C.hx C.hb dL_refuses_480 (by decide) (fun c9 => absurd c9 (by decide +kernel)) (fun _ => ?_)
  refine lv_iload C.hx C.hb dL_refuses_483 (lv_at hl 0 rfl) ?_
  refine lv_bipush (v := nI 15) C.hx C.hb dL_refuses_485 (by decide +kernel) ?_
  refine lv_icmp_lt (tgt := 497) C.hx C.hb dL_refuses_487 (by decide) (fun c9 => absurd c9 (by decide +kernel)) (fun _ => ?_)
  refine lv_iload C.hx C.hb dL_refuses_490 (lv_at hl 0 rfl) ?_
  refine lv_bipush (v := nI 19) C.hx C.hb dL_refuses_492 (by decide +kernel) ?_
  refine lv_icmp_ne (tgt := 501) C.hx C.hb dL_refuses_494 (by decide) (fun c9 => absurd c9 (by decide +kernel)) (fun _ => ?_)
  refine lv_iconst (v := nI 1) C.hx C.hb dL_refuses_497 (by decide +kernel) ?_
  refine lv_goto (tgt := 502) C.hx C.hb dL_refuses_498 (by decide) ?_
  refine lv_istore (lv' := [(14, .int (nI 1)), (13, .int (nI 19)), (12, .int (nI 1)), (15, .int (nI 0)), (11, .int (nI 2147483647)), (10, .int (nI 2147483647)), (9, .int (nI 2147483647)), (8, .int (nI 2147483647)), (7, .int (nI 2147483647)), (6, .int (nI 2147483647)), (5, .int (nI 2)), (4, .int (nI (dfO g0 a a))), (3, .int (nI 2147483647)), (0, .ref (ad 70)), (1, .int (nI a)), (2, .int (nI b))]) C.hx C.hb dL_refuses_502 hl (by decide) rfl (fun ls hl => ?_)
  exact kk g z H locs ls hs hP hD hS hl

set_option maxRecDepth 100000 in
set_option maxHeartbeats 4000000 in
theorem tf_78 {p : Program} {l : Launch} {e : Env} {s : State} {m : MethodId} {args : Array Value} {below : List Frame} {meth : Method} {c : Code} {D : va_G} {cA : ClassId} {A : Nat → Prop} {ad : Nat → Nat} {Q : State → Prop} {g0 : Nat → Nat → Int32} {a t b : Nat} (ha : a ≤ 16) (hb9 : b ≤ 40) (hab : 0 < a → 0 < b) (C : lcx p l s m c cL_refuses 16 D cA A) (kk : ∀ (g : Nat → Nat → Int32) (z : Nat → Nat) (H : Heap) (locs : List Loc) (ls : Array Slot), SR g0 a t b g z → va_P D vwCl (rlW cA ad g z) H → va_D A (rlW cA ad g z) → va_S A s.heap H locs → lv_has ls 16 [(12, .int (nI 1)), (15, .int (nI 1)), (14, .int (nI 1)), (13, .int (nI 19)), (11, .int (nI 2147483647)), (10, .int (nI 2147483647)), (9, .int (nI 2147483647)), (8, .int (nI 2147483647)), (7, .int (nI 2147483647)), (6, .int (nI 2147483647)), (5, .int (nI 2)), (4, .int (nI (dfO g0 a a))), (3, .int (nI 2147483647)), (0, .ref (ad 70)), (1, .int (nI a)), (2, .int (nI b))] → W p l e rm_Lr s m args below meth c H locs 170 1020 Q (F0 m 630 ls [])) : ∀ (g : Nat → Nat → Int32) (z : Nat → Nat) (H : Heap) (locs : List Loc) (ls : Array Slot), SR g0 a t b g z → va_P D vwCl (rlW cA ad g z) H → va_D A (rlW cA ad g z) → va_S A s.heap H locs → lv_has ls 16 [(14, .int (nI 1)), (13, .int (nI 19)), (12, .int (nI 1)), (15, .int (nI 0)), (11, .int (nI 2147483647)), (10, .int (nI 2147483647)), (9, .int (nI 2147483647)), (8, .int (nI 2147483647)), (7, .int (nI 2147483647)), (6, .int (nI 2147483647)), (5, .int (nI 2)), (4, .int (nI (dfO g0 a a))), (3, .int (nI 2147483647)), (0, .ref (ad 70)), (1, .int (nI a)), (2, .int (nI b))] → W p l e rm_Lr s m args below meth c H locs 166 996 Q (F0 m 504 ls []) := by
  intro g z H locs ls hs hP hD hS hl
  refine lv_iload C.hx C.hb dL_refuses_504 (lv_at hl 1 rfl) ?_
  refine lv_iconst (v := nI 3) C.hx C.hb dL_refuses_506 (by decide +kernel) ?_
  refine lv_icmp_eq (tgt := 531) C.hx C.hb dL_refuses_507 (by decide) (fun c9 => absurd c9 (by decide +kernel)) (fun _ => ?_)
  refine lv_iload C.hx C.hb dL_refuses_510 (lv_at hl 1 rfl) ?_
  refine lv_bipush (v := nI 7) C.hx C.hb dL_refuses_512 (by decide +kernel) ?_
  refine lv_icmp_le (tgt := 524) C.hx C.hb dL_refuses_514 (by decide) (fun c9 => absurd c9 (by decide +kernel)) (fun _ => ?_)
  refine lv_iload C.hx C.hb dL_refuses_517 (lv_at hl 1 rfl) ?_
  refine lv_bipush (v := nI 13) C.hx C.hb dL_refuses_519 (by decide +kernel) ?_
  refine lv_icmp_lt (tgt := 531) C.hx C.hb dL_refuses_521 (by decide) (fun c9 => absurd c9 (by decide +kernel)) (fun _ => ?_)
  refine lv_iload C.hx C.hb dL_refuses_524 (lv_at hl 1 rfl) ?_
  refine lv_bipush (v := nI 19) C.hx C.hb dL_refuses_526 (by decide +kernel) ?_
  refine lv_icmp_ne (tgt := 535) C.hx C.hb dL_refuses_528 (by decide) (fun c9 => absurd c9 (by decide +kernel)) (fun _ => ?_)
  refine lv_iconst (v := nI 1) C.hx C.hb dL_refuses_531 (by decide +kernel) ?_
  refine lv_goto (tgt := 536) C.hx C.hb dL_refuses_532 (by decide) ?_
  refine lv_istore (lv' := [(15, .int (nI 1)), (14, .int (nI 1)), (13, .int (nI 19)), (12, .int (nI 1)), (11, .int (nI 2147483647)), (10, .int (nI 2147483647)), (9, .int (nI 2147483647)), (8, .int (nI 2147483647)), (7, .int (nI 2147483647)), (6, .int (nI 2147483647)), (5, .int (nI 2)), (4, .int (nI (dfO g0 a a))), (3, .int (nI 2147483647)), (0, .ref (ad 70)), (1, .int (nI a)), (2, .int (nI b))]) C.hx C.hb dL_refuses_536 hl (by decide) rfl (fun ls hl => ?_)
  refine lv_iload C.hx C.hb dL_refuses_538 (lv_at hl 1 rfl) ?_
  refine lv_if_eq (tgt := 567) C.hx C.hb dL_refuses_540 (by decide) (fun c9 => absurd c9 (by decide +kernel)) (fun _ => ?_)
  refine lv_aload_n C.hx C.hb dL_refuses_543 rfl (lv_at hl 13 rfl) ?_
  refine lv_iload C.hx C.hb dL_refuses_544 (lv_at hl 2 rfl) ?_
  refine lv_iload C.hx C.hb dL_refuses_546 (lv_at hl 7 rfl) ?_
  refine lv_iconst (v := nI 0) C.hx C.hb dL_refuses_548 (by decide +kernel) ?_
  refine lv_bipush (v := nI 99) C.hx C.hb dL_refuses_549 (by decide +kernel) ?_
  refine lv_iconst (v := nI 0) C.hx C.hb dL_refuses_551 (by decide +kernel) ?_
  refine q_cR (w := 19) (p0 := nI 2147483647) (p1 := nI 0) (p2 := nI 99) (p3 := nI 0) (r := -7000001) (c2 := 167) (s2 := 1002) C hs hP hD hS (ri_kin C.htr (notr (by decide +kernel) (by omega))) hl rfl (Nat.le_of_ble_eq_true rfl) ⟨Nat.le_of_ble_eq_true rfl, Nat.le_of_ble_eq_true rfl⟩ ⟨Nat.le_of_ble_eq_true rfl, Nat.le_of_ble_eq_true rfl⟩ ⟨Nat.le_of_ble_eq_true rfl, Nat.le_of_ble_eq_true rfl⟩ dL_refuses_552 (fun g z H locs hs hP hD hS => ?_)
  refine lv_ldc (v := -7000001) C.hx C.hb C.hown (C.hT.use kk_L_90 args) dL_refuses_555 ?_
  refine lv_icmp_ne (tgt := 564) C.hx C.hb dL_refuses_557 (by decide) (fun c9 => absurd c9 (by decide +kernel)) (fun _ => ?_)
  refine lv_iconst (v := nI 1) C.hx C.hb dL_refuses_560 (by decide +kernel) ?_
  refine lv_goto (tgt := 565) C.hx C.hb dL_refuses_561 (by decide) ?_
  refine lv_istore (lv' := [(12, .int (nI 1)), (15, .int (nI 1)), (14, .int (nI 1)), (13, .int (nI 19)), (11, .int (nI 2147483647)), (10, .int (nI 2147483647)), (9, .int (nI 2147483647)), (8, .int (nI 2147483647)), (7, .int (nI 2147483647)), (6, .int (nI 2147483647)), (5, .int (nI 2)), (4, .int (nI (dfO g0 a a))), (3, .int (nI 2147483647)), (0, .ref (ad 70)), (1, .int (nI a)), (2, .int (nI b))]) C.hx C.hb dL_refuses_565 hl (by decide) rfl (fun ls hl => ?_)
  refine lv_iload C.hx C.hb dL_refuses_567 (lv_at hl 1 rfl) ?_
  refine lv_if_eq (tgt := 637) C.hx C.hb dL_refuses_569 (by decide) (fun c9 => absurd c9 (by decide +kernel)) (fun _ => ?_)
  refine lv_iload C.hx C.hb dL_refuses_572 (lv_at hl 0 rfl) ?_
  refine lv_if_eq (tgt := 634) C.hx C.hb dL_refuses_574 (by decide) (fun c9 => absurd c9 (by decide +kernel)) (fun _ => ?_)
  refine lv_aload_n C.hx C.hb dL_refuses_577 rfl (lv_at hl 13 rfl) ?_
  refine lv_iload C.hx C.hb dL_refuses_578 (lv_at hl 3 rfl) ?_
  refine lv_iconst (v := nI 0) C.hx C.hb dL_refuses_580 (by decide +kernel) ?_
  refine lv_iload C.hx C.hb dL_refuses_581 (lv_at hl 7 rfl) ?_
  refine lv_bipush (v := nI 99) C.hx C.hb dL_refuses_583 (by decide +kernel) ?_
  refine lv_iconst (v := nI 0) C.hx C.hb dL_refuses_585 (by decide +kernel) ?_
  refine q_cR (w := 19) (p0 := nI 0) (p1 := nI 2147483647) (p2 := nI 99) (p3 := nI 0) (r := -7000001) (c2 := 168) (s2 := 1008) C hs hP hD hS (rj_kin C.htr (notr (by decide +kernel) (by omega))) hl rfl (Nat.le_of_ble_eq_true rfl) ⟨Nat.le_of_ble_eq_true rfl, Nat.le_of_ble_eq_true rfl⟩ ⟨Nat.le_of_ble_eq_true rfl, Nat.le_of_ble_eq_true rfl⟩ ⟨Nat.le_of_ble_eq_true rfl, Nat.le_of_ble_eq_true rfl⟩ dL_refuses_586 (fun g z H locs hs hP hD hS => ?_)
  refine lv_ldc (v := -7000001) C.hx C.hb C.hown (C.hT.use kk_L_90 args) dL_refuses_589 ?_
  refine lv_icmp_ne (tgt := 634) C.hx C.hb dL_refuses_591 (by decide) (fun c9 => absurd c9 (by decide +kernel)) (fun _ => ?_)
  refine lv_aload_n C.hx C.hb dL_refuses_594 rfl (lv_at hl 13 rfl) ?_
  refine lv_iload C.hx C.hb dL_refuses_595 (lv_at hl 3 rfl) ?_
  refine lv_iload C.hx C.hb dL_refuses_597 (lv_at hl 7 rfl) ?_
  refine lv_iload C.hx C.hb dL_refuses_599 (lv_at hl 7 rfl) ?_
  refine lv_iconst (v := nI 0) C.hx C.hb dL_refuses_601 (by decide +kernel) ?_
  refine lv_iconst (v := nI 0) C.hx C.hb dL_refuses_602 (by decide +kernel) ?_
  refine q_cR (w := 19) (p0 := nI 2147483647) (p1 := nI 2147483647) (p2 := nI 0) (p3 := nI 0) (r := -7000001) (c2 := 169) (s2 := 1014) C hs hP hD hS (ri_kin C.htr (notr (by decide +kernel) (by omega))) hl rfl (Nat.le_of_ble_eq_true rfl) ⟨Nat.le_of_ble_eq_true rfl, Nat.le_of_ble_eq_true rfl⟩ ⟨Nat.le_of_ble_eq_true rfl, Nat.le_of_ble_eq_true rfl⟩ ⟨Nat.le_of_ble_eq_true rfl, Nat.le_of_ble_eq_true rfl⟩ dL_refuses_603 (fun g z H locs hs hP hD hS => ?_)
  refine lv_ldc (v := -7000001) C.hx C.hb C.hown (C.hT.use kk_L_90 args) dL_refuses_606 ?_
  refine lv_icmp_ne (tgt := 634) C.hx C.hb dL_refuses_608 (by decide) (fun c9 => absurd c9 (by decide +kernel)) (fun _ => ?_)
  refine lv_iload_n C.hx C.hb dL_refuses_611 rfl (lv_at hl 14 rfl) ?_
  refine lv_if_eq (tgt := 630) C.hx C.hb dL_refuses_612 (by decide) (fun c9 => ?_) (fun c9 => ?_)
  · refine W.widen (k := 170) (n := 1020) (Nat.le_of_ble_eq_true rfl) (Nat.le_of_ble_eq_true rfl) ?_
    exact kk g z H locs ls hs hP hD hS hl
  · have ha0 : 0 < a := Nat.pos_of_ne_zero (fun q => c9 (by rw [q]; rfl))
    have hb0 : 0 < b := hab ha0
    refine lv_aload_n C.hx C.hb dL_refuses_615 rfl (lv_at hl 13 rfl) ?_
    refine lv_iload C.hx C.hb dL_refuses_616 (lv_at hl 3 rfl) ?_
    refine lv_iconst (v := nI 0) C.hx C.hb dL_refuses_618 (by decide +kernel) ?_
    refine lv_iconst (v := nI 0) C.hx C.hb dL_refuses_619 (by decide +kernel) ?_
    refine lv_iconst (v := nI 0) C.hx C.hb dL_refuses_620 (by decide +kernel) ?_
    refine lv_iconst (v := nI 0) C.hx C.hb dL_refuses_621 (by decide +kernel) ?_
    refine q_cR (w := 19) (p0 := nI 0) (p1 := nI 0) (p2 := nI 0) (p3 := nI 0) (r := -7000002) (c2 := 170) (s2 := 1020) C hs hP hD hS (rs_kin C.htr (q_r_nI (by omega))) hl rfl (Nat.le_of_ble_eq_true rfl) ⟨Nat.le_of_ble_eq_true rfl, Nat.le_of_ble_eq_true rfl⟩ ⟨Nat.le_of_ble_eq_true rfl, Nat.le_of_ble_eq_true rfl⟩ ⟨Nat.le_of_ble_eq_true rfl, Nat.le_of_ble_eq_true rfl⟩ dL_refuses_622 (fun g z H locs hs hP hD hS => ?_)
    refine lv_ldc (v := -7000002) C.hx C.hb C.hown (C.hT.use kk_L_93 args) dL_refuses_625 ?_
    refine lv_icmp_ne (tgt := 634) C.hx C.hb dL_refuses_627 (by decide) (fun c9 => absurd c9 (by decide +kernel)) (fun _ => ?_)
    exact kk g z H locs ls hs hP hD hS hl

set_option maxRecDepth 100000 in
set_option maxHeartbeats 4000000 in
theorem tf_79 {p : Program} {l : Launch} {e : Env} {s : State} {m : MethodId} {args : Array Value} {below : List Frame} {meth : Method} {c : Code} {D : va_G} {cA : ClassId} {A : Nat → Prop} {ad : Nat → Nat} {Q : State → Prop} {g0 : Nat → Nat → Int32} {a t b : Nat} (ha : a ≤ 16) (hb9 : b ≤ 40) (hab : 0 < a → 0 < b) (C : lcx p l s m c cL_refuses 16 D cA A) (kk : ∀ (g : Nat → Nat → Int32) (z : Nat → Nat) (H : Heap) (locs : List Loc) (ls : Array Slot), SR g0 a t b g z → va_P D vwCl (rlW cA ad g z) H → va_D A (rlW cA ad g z) → va_S A s.heap H locs → lv_has ls 16 [(13, .int (nI 20)), (12, .int (nI 1)), (15, .int (nI 1)), (14, .int (nI 1)), (11, .int (nI 2147483647)), (10, .int (nI 2147483647)), (9, .int (nI 2147483647)), (8, .int (nI 2147483647)), (7, .int (nI 2147483647)), (6, .int (nI 2147483647)), (5, .int (nI 2)), (4, .int (nI (dfO g0 a a))), (3, .int (nI 2147483647)), (0, .ref (ad 70)), (1, .int (nI a)), (2, .int (nI b))] → W p l e rm_Lr s m args below meth c H locs 171 1026 Q (F0 m 733 ls [])) : ∀ (g : Nat → Nat → Int32) (z : Nat → Nat) (H : Heap) (locs : List Loc) (ls : Array Slot), SR g0 a t b g z → va_P D vwCl (rlW cA ad g z) H → va_D A (rlW cA ad g z) → va_S A s.heap H locs → lv_has ls 16 [(12, .int (nI 1)), (15, .int (nI 1)), (14, .int (nI 1)), (13, .int (nI 19)), (11, .int (nI 2147483647)), (10, .int (nI 2147483647)), (9, .int (nI 2147483647)), (8, .int (nI 2147483647)), (7, .int (nI 2147483647)), (6, .int (nI 2147483647)), (5, .int (nI 2)), (4, .int (nI (dfO g0 a a))), (3, .int (nI 2147483647)), (0, .ref (ad 70)), (1, .int (nI a)), (2, .int (nI b))] → W p l e rm_Lr s m args below meth c H locs 170 1020 Q (F0 m 630 ls []) := by
  intro g z H locs ls hs hP hD hS hl
  refine lv_iconst (v := nI 1) C.hx C.hb dL_refuses_630 (by decide +kernel) ?_
  refine lv_goto (tgt := 635) C.hx C.hb dL_refuses_631 (by decide) ?_
  refine lv_istore (lv' := [(12, .int (nI 1)), (15, .int (nI 1)), (14, .int (nI 1)), (13, .int (nI 19)), (11, .int (nI 2147483647)), (10, .int (nI 2147483647)), (9, .int (nI 2147483647)), (8, .int (nI 2147483647)), (7, .int (nI 2147483647)), (6, .int (nI 2147483647)), (5, .int (nI 2)), (4, .int (nI (dfO g0 a a))), (3, .int (nI 2147483647)), (0, .ref (ad 70)), (1, .int (nI a)), (2, .int (nI b))]) C.hx C.hb dL_refuses_635 hl (by decide) rfl (fun ls hl => ?_)
  refine lv_iload C.hx C.hb dL_refuses_637 (lv_at hl 3 rfl) ?_
  refine lv_bipush (v := nI 15) C.hx C.hb dL_refuses_639 (by decide +kernel) ?_
  refine lv_icmp_eq (tgt := 658) C.hx C.hb dL_refuses_641 (by decide) (fun c9 => absurd c9 (by decide +kernel)) (fun _ => ?_)
  refine lv_iload C.hx C.hb dL_refuses_644 (lv_at hl 3 rfl) ?_
  refine lv_bipush (v := nI 16) C.hx C.hb dL_refuses_646 (by decide +kernel) ?_
  refine lv_icmp_eq (tgt := 658) C.hx C.hb dL_refuses_648 (by decide) (fun c9 => absurd c9 (by decide +kernel)) (fun _ => ?_)
  refine lv_iload C.hx C.hb dL_refuses_651 (lv_at hl 3 rfl) ?_
  refine lv_bipush (v := nI 18) C.hx C.hb dL_refuses_653 (by decide +kernel) ?_
  refine lv_icmp_ne (tgt := 681) C.hx C.hb dL_refuses_655 (by decide) (fun _ => ?_) (fun c9 => absurd c9 (by decide +kernel))
  refine lv_iinc (v := nI 20) (lv' := [(13, .int (nI 20)), (12, .int (nI 1)), (15, .int (nI 1)), (14, .int (nI 1)), (11, .int (nI 2147483647)), (10, .int (nI 2147483647)), (9, .int (nI 2147483647)), (8, .int (nI 2147483647)), (7, .int (nI 2147483647)), (6, .int (nI 2147483647)), (5, .int (nI 2)), (4, .int (nI (dfO g0 a a))), (3, .int (nI 2147483647)), (0, .ref (ad 70)), (1, .int (nI a)), (2, .int (nI b))]) C.hx C.hb dL_refuses_681 hl (k := 3) rfl (by decide +kernel) (by decide) rfl (fun ls hl => ?_)
  refine lv_goto (tgt := 459) C.hx C.hb dL_refuses_684 (by decide) ?_
  refine lv_iload C.hx C.hb dL_refuses_459 (lv_at hl 0 rfl) ?_
  refine lv_bipush (v := nI 20) C.hx C.hb dL_refuses_461 (by decide +kernel) ?_
  refine lv_icmp_ge (tgt := 687) C.hx C.hb dL_refuses_463 (by decide) (fun _ => ?_) (fun c9 => absurd c9 (by decide +kernel))
  refine lv_iload C.hx C.hb dL_refuses_687 (lv_at hl 1 rfl) ?_
  refine lv_if_eq (tgt := 737) C.hx C.hb dL_refuses_689 (by decide) (fun c9 => absurd c9 (by decide +kernel)) (fun _ => ?_)
  refine lv_iload_n C.hx C.hb dL_refuses_692 rfl (lv_at hl 14 rfl) ?_
  refine lv_iconst (v := nI 2) C.hx C.hb dL_refuses_693 (by decide +kernel) ?_
  refine lv_icmp_lt (tgt := 733) C.hx C.hb dL_refuses_694 (by decide) (fun c9 => ?_) (fun c9 => ?_)
  · refine W.widen (k := 171) (n := 1026) (Nat.le_of_ble_eq_true rfl) (Nat.le_of_ble_eq_true rfl) ?_
    exact kk g z H locs ls hs hP hD hS hl
  · have h2 : 2 ≤ a := by rw [Int32.lt_iff_toInt_lt, nI_toInt (by omega), nI_toInt (by omega)] at c9; omega
    refine lv_aload_n C.hx C.hb dL_refuses_697 rfl (lv_at hl 13 rfl) ?_
    refine lv_iconst (v := nI 3) C.hx C.hb dL_refuses_698 (by decide +kernel) ?_
    refine lv_iconst (v := nI 0) C.hx C.hb dL_refuses_699 (by decide +kernel) ?_
    refine lv_iconst (v := nI 1) C.hx C.hb dL_refuses_700 (by decide +kernel) ?_
    refine lv_iload C.hx C.hb dL_refuses_701 (lv_at hl 10 rfl) ?_
    refine lv_if_ne (tgt := 711) C.hx C.hb dL_refuses_703 (by decide) (fun _ => ?_) (fun c9 => absurd c9 (by decide +kernel))
    refine lv_iload C.hx C.hb dL_refuses_711 (lv_at hl 10 rfl) ?_
    refine lv_iconst (v := nI 1) C.hx C.hb dL_refuses_713 (by decide +kernel) ?_
    refine lv_icmp_ne (tgt := 722) C.hx C.hb dL_refuses_714 (by decide) (fun _ => ?_) (fun c9 => absurd c9 (by decide +kernel))
    refine lv_iload C.hx C.hb dL_refuses_722 (lv_at hl 9 rfl) ?_
    refine lv_iconst (v := nI 0) C.hx C.hb dL_refuses_724 (by decide +kernel) ?_
    refine q_cR (w := 3) (p0 := nI 0) (p1 := nI 1) (p2 := nI 2147483647) (p3 := nI 0) (r := -7000002) (c2 := 171) (s2 := 1026) C hs hP hD hS (rg_ahead (i := 0) (j := 1) C.htr (by omega) (by omega) (by decide) (by decide +kernel)) hl rfl (Nat.le_of_ble_eq_true rfl) ⟨Nat.le_of_ble_eq_true rfl, Nat.le_of_ble_eq_true rfl⟩ ⟨Nat.le_of_ble_eq_true rfl, Nat.le_of_ble_eq_true rfl⟩ ⟨Nat.le_of_ble_eq_true rfl, Nat.le_of_ble_eq_true rfl⟩ dL_refuses_725 (fun g z H locs hs hP hD hS => ?_)
    refine lv_ldc (v := -7000002) C.hx C.hb C.hown (C.hT.use kk_L_93 args) dL_refuses_728 ?_
    refine lv_icmp_ne (tgt := 737) C.hx C.hb dL_refuses_730 (by decide) (fun c9 => absurd c9 (by decide +kernel)) (fun _ => ?_)
    exact kk g z H locs ls hs hP hD hS hl

set_option maxRecDepth 100000 in
set_option maxHeartbeats 4000000 in
theorem tf_80 {p : Program} {l : Launch} {e : Env} {s : State} {m : MethodId} {args : Array Value} {below : List Frame} {meth : Method} {c : Code} {D : va_G} {cA : ClassId} {A : Nat → Prop} {ad : Nat → Nat} {Q : State → Prop} {g0 : Nat → Nat → Int32} {a t b : Nat} (ha : a ≤ 16) (hb9 : b ≤ 40) (hab : 0 < a → 0 < b) (C : lcx p l s m c cL_refuses 16 D cA A) (kk : ∀ (g : Nat → Nat → Int32) (z : Nat → Nat) (H : Heap) (locs : List Loc) (ls : Array Slot), SR g0 a t b g z → va_P D vwCl (rlW cA ad g z) H → va_D A (rlW cA ad g z) → va_S A s.heap H locs → lv_has ls 16 [(12, .int (nI 1)), (13, .int (nI 20)), (15, .int (nI 1)), (14, .int (nI 1)), (11, .int (nI 2147483647)), (10, .int (nI 2147483647)), (9, .int (nI 2147483647)), (8, .int (nI 2147483647)), (7, .int (nI 2147483647)), (6, .int (nI 2147483647)), (5, .int (nI 2)), (4, .int (nI (dfO g0 a a))), (3, .int (nI 2147483647)), (0, .ref (ad 70)), (1, .int (nI a)), (2, .int (nI b))] → W p l e rm_Lr s m args below meth c H locs 177 1062 Q (F0 m 931 ls [])) : ∀ (g : Nat → Nat → Int32) (z : Nat → Nat) (H : Heap) (locs : List Loc) (ls : Array Slot), SR g0 a t b g z → va_P D vwCl (rlW cA ad g z) H → va_D A (rlW cA ad g z) → va_S A s.heap H locs → lv_has ls 16 [(13, .int (nI 20)), (12, .int (nI 1)), (15, .int (nI 1)), (14, .int (nI 1)), (11, .int (nI 2147483647)), (10, .int (nI 2147483647)), (9, .int (nI 2147483647)), (8, .int (nI 2147483647)), (7, .int (nI 2147483647)), (6, .int (nI 2147483647)), (5, .int (nI 2)), (4, .int (nI (dfO g0 a a))), (3, .int (nI 2147483647)), (0, .ref (ad 70)), (1, .int (nI a)), (2, .int (nI b))] → W p l e rm_Lr s m args below meth c H locs 171 1026 Q (F0 m 733 ls []) := by
  intro g z H locs ls hs hP hD hS hl
  refine lv_iconst (v := nI 1) C.hx C.hb dL_refuses_733 (by decide +kernel) ?_
  refine lv_goto (tgt := 738) C.hx C.hb dL_refuses_734 (by decide) ?_
  refine lv_istore (lv' := [(12, .int (nI 1)), (13, .int (nI 20)), (15, .int (nI 1)), (14, .int (nI 1)), (11, .int (nI 2147483647)), (10, .int (nI 2147483647)), (9, .int (nI 2147483647)), (8, .int (nI 2147483647)), (7, .int (nI 2147483647)), (6, .int (nI 2147483647)), (5, .int (nI 2)), (4, .int (nI (dfO g0 a a))), (3, .int (nI 2147483647)), (0, .ref (ad 70)), (1, .int (nI a)), (2, .int (nI b))]) C.hx C.hb dL_refuses_738 hl (by decide) rfl (fun ls hl => ?_)
  refine lv_iload C.hx C.hb dL_refuses_740 (lv_at hl 0 rfl) ?_
  refine lv_if_eq (tgt := 935) C.hx C.hb dL_refuses_742 (by decide) (fun c9 => absurd c9 (by decide +kernel)) (fun _ => ?_)
  refine lv_iload_n C.hx C.hb dL_refuses_745 rfl (lv_at hl 14 rfl) ?_
  refine lv_if_eq (tgt := 931) C.hx C.hb dL_refuses_746 (by decide) (fun c9 => ?_) (fun c9 => ?_)
  · refine W.widen (k := 177) (n := 1062) (Nat.le_of_ble_eq_true rfl) (Nat.le_of_ble_eq_true rfl) ?_
    exact kk g z H locs ls hs hP hD hS hl
  · have ha0 : 0 < a := Nat.pos_of_ne_zero (fun q => c9 (by rw [q]; rfl))
    have hb0 : 0 < b := hab ha0
    refine lv_aload_n C.hx C.hb dL_refuses_749 rfl (lv_at hl 13 rfl) ?_
    refine lv_iconst (v := nI 4) C.hx C.hb dL_refuses_750 (by decide +kernel) ?_
    refine lv_iconst (v := nI 0) C.hx C.hb dL_refuses_751 (by decide +kernel) ?_
    refine lv_iload C.hx C.hb dL_refuses_752 (lv_at hl 10 rfl) ?_
    refine lv_iconst (v := nI 1) C.hx C.hb dL_refuses_754 (by decide +kernel) ?_
    refine lv_icmp_ne (tgt := 764) C.hx C.hb dL_refuses_755 (by decide) (fun _ => ?_) (fun c9 => absurd c9 (by decide +kernel))
    refine lv_iload C.hx C.hb dL_refuses_764 (lv_at hl 9 rfl) ?_
    refine lv_sipush (v := nI 999) C.hx C.hb dL_refuses_766 (by decide +kernel) ?_
    refine lv_iconst (v := nI 0) C.hx C.hb dL_refuses_769 (by decide +kernel) ?_
    refine q_cR (w := 4) (p0 := nI 0) (p1 := nI 2147483647) (p2 := nI 999) (p3 := nI 0) (r := -7000002) (c2 := 172) (s2 := 1032) C hs hP hD hS (rl_find C.htr (q_r_nI (by omega)) (by decide +kernel)) hl rfl (Nat.le_of_ble_eq_true rfl) ⟨Nat.le_of_ble_eq_true rfl, Nat.le_of_ble_eq_true rfl⟩ ⟨Nat.le_of_ble_eq_true rfl, Nat.le_of_ble_eq_true rfl⟩ ⟨Nat.le_of_ble_eq_true rfl, Nat.le_of_ble_eq_true rfl⟩ dL_refuses_770 (fun g z H locs hs hP hD hS => ?_)
    refine lv_ldc (v := -7000002) C.hx C.hb C.hown (C.hT.use kk_L_93 args) dL_refuses_773 ?_
    refine lv_icmp_ne (tgt := 935) C.hx C.hb dL_refuses_775 (by decide) (fun c9 => absurd c9 (by decide +kernel)) (fun _ => ?_)
    refine lv_aload_n C.hx C.hb dL_refuses_778 rfl (lv_at hl 13 rfl) ?_
    refine lv_iconst (v := nI 4) C.hx C.hb dL_refuses_779 (by decide +kernel) ?_
    refine lv_iconst (v := nI 0) C.hx C.hb dL_refuses_780 (by decide +kernel) ?_
    refine lv_iconst (v := nI 5) C.hx C.hb dL_refuses_781 (by decide +kernel) ?_
    refine lv_iload C.hx C.hb dL_refuses_782 (lv_at hl 10 rfl) ?_
    refine lv_if_ne (tgt := 791) C.hx C.hb dL_refuses_784 (by decide) (fun _ => ?_) (fun c9 => absurd c9 (by decide +kernel))
    refine lv_iload C.hx C.hb dL_refuses_791 (lv_at hl 10 rfl) ?_
    refine lv_iconst (v := nI 1) C.hx C.hb dL_refuses_793 (by decide +kernel) ?_
    refine lv_icmp_ne (tgt := 803) C.hx C.hb dL_refuses_794 (by decide) (fun _ => ?_) (fun c9 => absurd c9 (by decide +kernel))
    refine lv_iload C.hx C.hb dL_refuses_803 (lv_at hl 9 rfl) ?_
    refine lv_iconst (v := nI 0) C.hx C.hb dL_refuses_805 (by decide +kernel) ?_
    refine q_cR (w := 4) (p0 := nI 0) (p1 := nI 5) (p2 := nI 2147483647) (p3 := nI 0) (r := -7000002) (c2 := 173) (s2 := 1038) C hs hP hD hS (rh_find C.htr (q_r_nI (by omega)) (by decide +kernel) (by decide +kernel)) hl rfl (Nat.le_of_ble_eq_true rfl) ⟨Nat.le_of_ble_eq_true rfl, Nat.le_of_ble_eq_true rfl⟩ ⟨Nat.le_of_ble_eq_true rfl, Nat.le_of_ble_eq_true rfl⟩ ⟨Nat.le_of_ble_eq_true rfl, Nat.le_of_ble_eq_true rfl⟩ dL_refuses_806 (fun g z H locs hs hP hD hS => ?_)
    refine lv_ldc (v := -7000002) C.hx C.hb C.hown (C.hT.use kk_L_93 args) dL_refuses_809 ?_
    refine lv_icmp_ne (tgt := 935) C.hx C.hb dL_refuses_811 (by decide) (fun c9 => absurd c9 (by decide +kernel)) (fun _ => ?_)
    refine lv_aload_n C.hx C.hb dL_refuses_814 rfl (lv_at hl 13 rfl) ?_
    refine lv_iconst (v := nI 5) C.hx C.hb dL_refuses_815 (by decide +kernel) ?_
    refine lv_iconst (v := nI 0) C.hx C.hb dL_refuses_816 (by decide +kernel) ?_
    refine lv_iload C.hx C.hb dL_refuses_817 (lv_at hl 10 rfl) ?_
    refine lv_iconst (v := nI 1) C.hx C.hb dL_refuses_819 (by decide +kernel) ?_
    refine lv_icmp_ne (tgt := 829) C.hx C.hb dL_refuses_820 (by decide) (fun _ => ?_) (fun c9 => absurd c9 (by decide +kernel))
    refine lv_iload C.hx C.hb dL_refuses_829 (lv_at hl 9 rfl) ?_
    refine lv_sipush (v := nI 999) C.hx C.hb dL_refuses_831 (by decide +kernel) ?_
    refine lv_iconst (v := nI 0) C.hx C.hb dL_refuses_834 (by decide +kernel) ?_
    refine q_cR (w := 5) (p0 := nI 0) (p1 := nI 2147483647) (p2 := nI 999) (p3 := nI 0) (r := -7000002) (c2 := 174) (s2 := 1044) C hs hP hD hS (rl_wouldMove C.htr (q_r_nI (by omega)) (by decide +kernel)) hl rfl (Nat.le_of_ble_eq_true rfl) ⟨Nat.le_of_ble_eq_true rfl, Nat.le_of_ble_eq_true rfl⟩ ⟨Nat.le_of_ble_eq_true rfl, Nat.le_of_ble_eq_true rfl⟩ ⟨Nat.le_of_ble_eq_true rfl, Nat.le_of_ble_eq_true rfl⟩ dL_refuses_835 (fun g z H locs hs hP hD hS => ?_)
    refine lv_ldc (v := -7000002) C.hx C.hb C.hown (C.hT.use kk_L_93 args) dL_refuses_838 ?_
    refine lv_icmp_ne (tgt := 935) C.hx C.hb dL_refuses_840 (by decide) (fun c9 => absurd c9 (by decide +kernel)) (fun _ => ?_)
    refine lv_aload_n C.hx C.hb dL_refuses_843 rfl (lv_at hl 13 rfl) ?_
    refine lv_iconst (v := nI 5) C.hx C.hb dL_refuses_844 (by decide +kernel) ?_
    refine lv_iconst (v := nI 0) C.hx C.hb dL_refuses_845 (by decide +kernel) ?_
    refine lv_iconst (v := nI 5) C.hx C.hb dL_refuses_846 (by decide +kernel) ?_
    refine lv_iload C.hx C.hb dL_refuses_847 (lv_at hl 10 rfl) ?_
    refine lv_if_ne (tgt := 856) C.hx C.hb dL_refuses_849 (by decide) (fun _ => ?_) (fun c9 => absurd c9 (by decide +kernel))
    refine lv_iload C.hx C.hb dL_refuses_856 (lv_at hl 10 rfl) ?_
    refine lv_iconst (v := nI 1) C.hx C.hb dL_refuses_858 (by decide +kernel) ?_
    refine lv_icmp_ne (tgt := 868) C.hx C.hb dL_refuses_859 (by decide) (fun _ => ?_) (fun c9 => absurd c9 (by decide +kernel))
    refine lv_iload C.hx C.hb dL_refuses_868 (lv_at hl 9 rfl) ?_
    refine lv_iconst (v := nI 0) C.hx C.hb dL_refuses_870 (by decide +kernel) ?_
    refine q_cR (w := 5) (p0 := nI 0) (p1 := nI 5) (p2 := nI 2147483647) (p3 := nI 0) (r := -7000002) (c2 := 175) (s2 := 1050) C hs hP hD hS (rh_wouldMove C.htr (q_r_nI (by omega)) (by decide +kernel) (by decide +kernel)) hl rfl (Nat.le_of_ble_eq_true rfl) ⟨Nat.le_of_ble_eq_true rfl, Nat.le_of_ble_eq_true rfl⟩ ⟨Nat.le_of_ble_eq_true rfl, Nat.le_of_ble_eq_true rfl⟩ ⟨Nat.le_of_ble_eq_true rfl, Nat.le_of_ble_eq_true rfl⟩ dL_refuses_871 (fun g z H locs hs hP hD hS => ?_)
    refine lv_ldc (v := -7000002) C.hx C.hb C.hown (C.hT.use kk_L_93 args) dL_refuses_874 ?_
    refine lv_icmp_ne (tgt := 935) C.hx C.hb dL_refuses_876 (by decide) (fun c9 => absurd c9 (by decide +kernel)) (fun _ => ?_)
    refine lv_aload_n C.hx C.hb dL_refuses_879 rfl (lv_at hl 13 rfl) ?_
    refine lv_bipush (v := nI 17) C.hx C.hb dL_refuses_880 (by decide +kernel) ?_
    refine lv_iconst (v := nI 0) C.hx C.hb dL_refuses_882 (by decide +kernel) ?_
    refine lv_iload C.hx C.hb dL_refuses_883 (lv_at hl 9 rfl) ?_
    refine lv_iconst (v := nI 0) C.hx C.hb dL_refuses_885 (by decide +kernel) ?_
    refine lv_iconst (v := nI 0) C.hx C.hb dL_refuses_886 (by decide +kernel) ?_
    refine q_cR (w := 17) (p0 := nI 0) (p1 := nI 2147483647) (p2 := nI 0) (p3 := nI 0) (r := -1) (c2 := 176) (s2 := 1056) C hs hP hD hS (rc_big (k := 0) (pl := 2147483647) C.htr hb0 (by decide) (by decide)) hl rfl (Nat.le_of_ble_eq_true rfl) ⟨Nat.le_of_ble_eq_true rfl, Nat.le_of_ble_eq_true rfl⟩ ⟨Nat.le_of_ble_eq_true rfl, Nat.le_of_ble_eq_true rfl⟩ ⟨Nat.le_of_ble_eq_true rfl, Nat.le_of_ble_eq_true rfl⟩ dL_refuses_887 (fun g z H locs hs hP hD hS => ?_)
    refine lv_iload C.hx C.hb dL_refuses_890 (lv_at hl 9 rfl) ?_
    refine lv_if_le (tgt := 899) C.hx C.hb dL_refuses_892 (by decide) (fun c9 => absurd c9 (by decide +kernel)) (fun _ => ?_)
    refine lv_iconst (v := -1) C.hx C.hb dL_refuses_895 (by decide +kernel) ?_
    refine lv_goto (tgt := 901) C.hx C.hb dL_refuses_896 (by decide) ?_
    refine lv_icmp_ne (tgt := 935) C.hx C.hb dL_refuses_901 (by decide) (fun c9 => absurd c9 (by decide +kernel)) (fun _ => ?_)
    refine lv_aload_n C.hx C.hb dL_refuses_904 rfl (lv_at hl 13 rfl) ?_
    refine lv_bipush (v := nI 23) C.hx C.hb dL_refuses_905 (by decide +kernel) ?_
    refine lv_iconst (v := nI 0) C.hx C.hb dL_refuses_907 (by decide +kernel) ?_
    refine lv_iload C.hx C.hb dL_refuses_908 (lv_at hl 10 rfl) ?_
    refine lv_iconst (v := nI 1) C.hx C.hb dL_refuses_910 (by decide +kernel) ?_
    refine lv_icmp_ne (tgt := 919) C.hx C.hb dL_refuses_911 (by decide) (fun _ => ?_) (fun c9 => absurd c9 (by decide +kernel))
    refine lv_iload C.hx C.hb dL_refuses_919 (lv_at hl 8 rfl) ?_
    refine lv_iconst (v := nI 0) C.hx C.hb dL_refuses_921 (by decide +kernel) ?_
    refine lv_iconst (v := nI 0) C.hx C.hb dL_refuses_922 (by decide +kernel) ?_
    refine q_cR (w := 23) (p0 := nI 0) (p1 := nI 2147483647) (p2 := nI 0) (p3 := nI 0) (r := -7000002) (c2 := 177) (s2 := 1062) C hs hP hD hS (rv_lb C.htr (q_r_nI (by omega)) (by decide +kernel)) hl rfl (Nat.le_of_ble_eq_true rfl) ⟨Nat.le_of_ble_eq_true rfl, Nat.le_of_ble_eq_true rfl⟩ ⟨Nat.le_of_ble_eq_true rfl, Nat.le_of_ble_eq_true rfl⟩ ⟨Nat.le_of_ble_eq_true rfl, Nat.le_of_ble_eq_true rfl⟩ dL_refuses_923 (fun g z H locs hs hP hD hS => ?_)
    refine lv_ldc (v := -7000002) C.hx C.hb C.hown (C.hT.use kk_L_93 args) dL_refuses_926 ?_
    refine lv_icmp_ne (tgt := 935) C.hx C.hb dL_refuses_928 (by decide) (fun c9 => absurd c9 (by decide +kernel)) (fun _ => ?_)
    exact kk g z H locs ls hs hP hD hS hl

set_option maxRecDepth 100000 in
set_option maxHeartbeats 4000000 in
theorem tf_81 {p : Program} {l : Launch} {e : Env} {s : State} {m : MethodId} {args : Array Value} {below : List Frame} {meth : Method} {c : Code} {D : va_G} {cA : ClassId} {A : Nat → Prop} {ad : Nat → Nat} {Q : State → Prop} {g0 : Nat → Nat → Int32} {a t b : Nat} (ha : a ≤ 16) (hb9 : b ≤ 40) (hab : 0 < a → 0 < b) (C : lcx p l s m c cL_refuses 16 D cA A) (kk : ∀ (g : Nat → Nat → Int32) (z : Nat → Nat) (H : Heap) (locs : List Loc) (ls : Array Slot), SR g0 a t b g z → va_P D vwCl (rlW cA ad g z) H → va_D A (rlW cA ad g z) → va_S A s.heap H locs → lv_has ls 16 [(11, .int (-2147483648)), (10, .int (-2147483648)), (9, .int (-2147483648)), (8, .int (-2147483648)), (7, .int (-2147483648)), (6, .int (-2147483648)), (5, .int (nI 3)), (12, .int (nI 1)), (13, .int (nI 20)), (15, .int (nI 1)), (14, .int (nI 1)), (4, .int (nI (dfO g0 a a))), (3, .int (nI 2147483647)), (0, .ref (ad 70)), (1, .int (nI a)), (2, .int (nI b))] → W p l e rm_Lr s m args below meth c H locs 178 1068 Q (F0 m 154 ls [])) : ∀ (g : Nat → Nat → Int32) (z : Nat → Nat) (H : Heap) (locs : List Loc) (ls : Array Slot), SR g0 a t b g z → va_P D vwCl (rlW cA ad g z) H → va_D A (rlW cA ad g z) → va_S A s.heap H locs → lv_has ls 16 [(12, .int (nI 1)), (13, .int (nI 20)), (15, .int (nI 1)), (14, .int (nI 1)), (11, .int (nI 2147483647)), (10, .int (nI 2147483647)), (9, .int (nI 2147483647)), (8, .int (nI 2147483647)), (7, .int (nI 2147483647)), (6, .int (nI 2147483647)), (5, .int (nI 2)), (4, .int (nI (dfO g0 a a))), (3, .int (nI 2147483647)), (0, .ref (ad 70)), (1, .int (nI a)), (2, .int (nI b))] → W p l e rm_Lr s m args below meth c H locs 177 1062 Q (F0 m 931 ls []) := by
  intro g z H locs ls hs hP hD hS hl
  refine lv_iconst (v := nI 1) C.hx C.hb dL_refuses_931 (by decide +kernel) ?_
  refine lv_goto (tgt := 936) C.hx C.hb dL_refuses_932 (by decide) ?_
  refine lv_istore (lv' := [(12, .int (nI 1)), (13, .int (nI 20)), (15, .int (nI 1)), (14, .int (nI 1)), (11, .int (nI 2147483647)), (10, .int (nI 2147483647)), (9, .int (nI 2147483647)), (8, .int (nI 2147483647)), (7, .int (nI 2147483647)), (6, .int (nI 2147483647)), (5, .int (nI 2)), (4, .int (nI (dfO g0 a a))), (3, .int (nI 2147483647)), (0, .ref (ad 70)), (1, .int (nI a)), (2, .int (nI b))]) C.hx C.hb dL_refuses_936 hl (by decide) rfl (fun ls hl => ?_)
  refine lv_iload C.hx C.hb dL_refuses_938 (lv_at hl 0 rfl) ?_
  refine lv_if_ne (tgt := 945) C.hx C.hb dL_refuses_940 (by decide) (fun _ => ?_) (fun c9 => absurd c9 (by decide +kernel))
  refine lv_iinc (v := nI 3) (lv' := [(5, .int (nI 3)), (12, .int (nI 1)), (13, .int (nI 20)), (15, .int (nI 1)), (14, .int (nI 1)), (11, .int (nI 2147483647)), (10, .int (nI 2147483647)), (9, .int (nI 2147483647)), (8, .int (nI 2147483647)), (7, .int (nI 2147483647)), (6, .int (nI 2147483647)), (4, .int (nI (dfO g0 a a))), (3, .int (nI 2147483647)), (0, .ref (ad 70)), (1, .int (nI a)), (2, .int (nI b))]) C.hx C.hb dL_refuses_945 hl (k := 10) rfl (by decide +kernel) (by decide) rfl (fun ls hl => ?_)
  refine lv_goto (tgt := 12) C.hx C.hb dL_refuses_948 (by decide) ?_
  refine lv_iload C.hx C.hb dL_refuses_12 (lv_at hl 0 rfl) ?_
  refine lv_iconst (v := nI 4) C.hx C.hb dL_refuses_14 (by decide +kernel) ?_
  refine lv_icmp_ge (tgt := 951) C.hx C.hb dL_refuses_15 (by decide) (fun c9 => absurd c9 (by decide +kernel)) (fun _ => ?_)
  refine lv_iload C.hx C.hb dL_refuses_18 (lv_at hl 0 rfl) ?_
  refine lv_if_ne (tgt := 27) C.hx C.hb dL_refuses_20 (by decide) (fun _ => ?_) (fun c9 => absurd c9 (by decide +kernel))
  refine lv_iload C.hx C.hb dL_refuses_27 (lv_at hl 0 rfl) ?_
  refine lv_iconst (v := nI 2) C.hx C.hb dL_refuses_29 (by decide +kernel) ?_
  refine lv_icmp_ne (tgt := 37) C.hx C.hb dL_refuses_30 (by decide) (fun _ => ?_) (fun c9 => absurd c9 (by decide +kernel))
  refine lv_iload_n C.hx C.hb dL_refuses_37 rfl (lv_at hl 12 rfl) ?_
  refine lv_ineg C.hx C.hb dL_refuses_38 ?_
  refine q_top (y := -2147483647) (by decide +kernel) ?_
  refine lv_iconst (v := nI 1) C.hx C.hb dL_refuses_39 (by decide +kernel) ?_
  refine lv_isub C.hx C.hb dL_refuses_40 ?_
  refine q_top (y := -2147483648) (by decide +kernel) ?_
  refine lv_istore (lv' := [(6, .int (-2147483648)), (5, .int (nI 3)), (12, .int (nI 1)), (13, .int (nI 20)), (15, .int (nI 1)), (14, .int (nI 1)), (11, .int (nI 2147483647)), (10, .int (nI 2147483647)), (9, .int (nI 2147483647)), (8, .int (nI 2147483647)), (7, .int (nI 2147483647)), (4, .int (nI (dfO g0 a a))), (3, .int (nI 2147483647)), (0, .ref (ad 70)), (1, .int (nI a)), (2, .int (nI b))]) C.hx C.hb dL_refuses_41 hl (by decide) rfl (fun ls hl => ?_)
  refine lv_iload C.hx C.hb dL_refuses_43 (lv_at hl 1 rfl) ?_
  refine lv_if_ne (tgt := 53) C.hx C.hb dL_refuses_45 (by decide) (fun _ => ?_) (fun c9 => absurd c9 (by decide +kernel))
  refine lv_iload C.hx C.hb dL_refuses_53 (lv_at hl 1 rfl) ?_
  refine lv_iconst (v := nI 2) C.hx C.hb dL_refuses_55 (by decide +kernel) ?_
  refine lv_icmp_ne (tgt := 63) C.hx C.hb dL_refuses_56 (by decide) (fun _ => ?_) (fun c9 => absurd c9 (by decide +kernel))
  refine lv_iload_n C.hx C.hb dL_refuses_63 rfl (lv_at hl 12 rfl) ?_
  refine lv_ineg C.hx C.hb dL_refuses_64 ?_
  refine q_top (y := -2147483647) (by decide +kernel) ?_
  refine lv_iconst (v := nI 1) C.hx C.hb dL_refuses_65 (by decide +kernel) ?_
  refine lv_isub C.hx C.hb dL_refuses_66 ?_
  refine q_top (y := -2147483648) (by decide +kernel) ?_
  refine lv_istore (lv' := [(7, .int (-2147483648)), (6, .int (-2147483648)), (5, .int (nI 3)), (12, .int (nI 1)), (13, .int (nI 20)), (15, .int (nI 1)), (14, .int (nI 1)), (11, .int (nI 2147483647)), (10, .int (nI 2147483647)), (9, .int (nI 2147483647)), (8, .int (nI 2147483647)), (4, .int (nI (dfO g0 a a))), (3, .int (nI 2147483647)), (0, .ref (ad 70)), (1, .int (nI a)), (2, .int (nI b))]) C.hx C.hb dL_refuses_67 hl (by decide) rfl (fun ls hl => ?_)
  refine lv_iload C.hx C.hb dL_refuses_69 (lv_at hl 2 rfl) ?_
  refine lv_iconst (v := nI 1) C.hx C.hb dL_refuses_71 (by decide +kernel) ?_
  refine lv_icmp_ne (tgt := 79) C.hx C.hb dL_refuses_72 (by decide) (fun _ => ?_) (fun c9 => absurd c9 (by decide +kernel))
  refine lv_iload C.hx C.hb dL_refuses_79 (lv_at hl 1 rfl) ?_
  refine lv_istore (lv' := [(8, .int (-2147483648)), (7, .int (-2147483648)), (6, .int (-2147483648)), (5, .int (nI 3)), (12, .int (nI 1)), (13, .int (nI 20)), (15, .int (nI 1)), (14, .int (nI 1)), (11, .int (nI 2147483647)), (10, .int (nI 2147483647)), (9, .int (nI 2147483647)), (4, .int (nI (dfO g0 a a))), (3, .int (nI 2147483647)), (0, .ref (ad 70)), (1, .int (nI a)), (2, .int (nI b))]) C.hx C.hb dL_refuses_81 hl (by decide) rfl (fun ls hl => ?_)
  refine lv_iload C.hx C.hb dL_refuses_83 (lv_at hl 3 rfl) ?_
  refine lv_iconst (v := nI 1) C.hx C.hb dL_refuses_85 (by decide +kernel) ?_
  refine lv_icmp_ne (tgt := 93) C.hx C.hb dL_refuses_86 (by decide) (fun _ => ?_) (fun c9 => absurd c9 (by decide +kernel))
  refine lv_iload C.hx C.hb dL_refuses_93 (lv_at hl 2 rfl) ?_
  refine lv_istore (lv' := [(9, .int (-2147483648)), (8, .int (-2147483648)), (7, .int (-2147483648)), (6, .int (-2147483648)), (5, .int (nI 3)), (12, .int (nI 1)), (13, .int (nI 20)), (15, .int (nI 1)), (14, .int (nI 1)), (11, .int (nI 2147483647)), (10, .int (nI 2147483647)), (4, .int (nI (dfO g0 a a))), (3, .int (nI 2147483647)), (0, .ref (ad 70)), (1, .int (nI a)), (2, .int (nI b))]) C.hx C.hb dL_refuses_95 hl (by decide) rfl (fun ls hl => ?_)
  refine lv_iload C.hx C.hb dL_refuses_97 (lv_at hl 4 rfl) ?_
  refine lv_iconst (v := nI 1) C.hx C.hb dL_refuses_99 (by decide +kernel) ?_
  refine lv_icmp_ne (tgt := 108) C.hx C.hb dL_refuses_100 (by decide) (fun _ => ?_) (fun c9 => absurd c9 (by decide +kernel))
  refine lv_iload C.hx C.hb dL_refuses_108 (lv_at hl 3 rfl) ?_
  refine lv_istore (lv' := [(10, .int (-2147483648)), (9, .int (-2147483648)), (8, .int (-2147483648)), (7, .int (-2147483648)), (6, .int (-2147483648)), (5, .int (nI 3)), (12, .int (nI 1)), (13, .int (nI 20)), (15, .int (nI 1)), (14, .int (nI 1)), (11, .int (nI 2147483647)), (4, .int (nI (dfO g0 a a))), (3, .int (nI 2147483647)), (0, .ref (ad 70)), (1, .int (nI a)), (2, .int (nI b))]) C.hx C.hb dL_refuses_110 hl (by decide) rfl (fun ls hl => ?_)
  refine lv_iload C.hx C.hb dL_refuses_112 (lv_at hl 5 rfl) ?_
  refine lv_iconst (v := nI 1) C.hx C.hb dL_refuses_114 (by decide +kernel) ?_
  refine lv_icmp_ne (tgt := 123) C.hx C.hb dL_refuses_115 (by decide) (fun _ => ?_) (fun c9 => absurd c9 (by decide +kernel))
  refine lv_iload C.hx C.hb dL_refuses_123 (lv_at hl 4 rfl) ?_
  refine lv_istore (lv' := [(11, .int (-2147483648)), (10, .int (-2147483648)), (9, .int (-2147483648)), (8, .int (-2147483648)), (7, .int (-2147483648)), (6, .int (-2147483648)), (5, .int (nI 3)), (12, .int (nI 1)), (13, .int (nI 20)), (15, .int (nI 1)), (14, .int (nI 1)), (4, .int (nI (dfO g0 a a))), (3, .int (nI 2147483647)), (0, .ref (ad 70)), (1, .int (nI a)), (2, .int (nI b))]) C.hx C.hb dL_refuses_125 hl (by decide) rfl (fun ls hl => ?_)
  refine lv_aload_n C.hx C.hb dL_refuses_127 rfl (lv_at hl 13 rfl) ?_
  refine lv_iconst (v := nI 0) C.hx C.hb dL_refuses_128 (by decide +kernel) ?_
  refine lv_bipush (v := nI 99) C.hx C.hb dL_refuses_129 (by decide +kernel) ?_
  refine lv_iconst (v := nI 0) C.hx C.hb dL_refuses_131 (by decide +kernel) ?_
  refine lv_iconst (v := nI 0) C.hx C.hb dL_refuses_132 (by decide +kernel) ?_
  refine lv_iload C.hx C.hb dL_refuses_133 (lv_at hl 6 rfl) ?_
  refine lv_iconst (v := nI 1) C.hx C.hb dL_refuses_135 (by decide +kernel) ?_
  refine lv_icmp_ne (tgt := 144) C.hx C.hb dL_refuses_136 (by decide) (fun _ => ?_) (fun c9 => absurd c9 (by decide +kernel))
  refine lv_iload C.hx C.hb dL_refuses_144 (lv_at hl 4 rfl) ?_
  refine q_cR (w := 0) (p0 := nI 99) (p1 := nI 0) (p2 := nI 0) (p3 := -2147483648) (r := -7000001) (c2 := 178) (s2 := 1068) C hs hP hD hS (rm_po C.htr (by decide +kernel) (notr (by decide +kernel) (by decide))) hl rfl (Nat.le_of_ble_eq_true rfl) ⟨Nat.le_of_ble_eq_true rfl, Nat.le_of_ble_eq_true rfl⟩ ⟨Nat.le_of_ble_eq_true rfl, Nat.le_of_ble_eq_true rfl⟩ ⟨Nat.le_of_ble_eq_true rfl, Nat.le_of_ble_eq_true rfl⟩ dL_refuses_146 (fun g z H locs hs hP hD hS => ?_)
  refine lv_ldc (v := -7000001) C.hx C.hb C.hown (C.hT.use kk_L_90 args) dL_refuses_149 ?_
  refine lv_icmp_ne (tgt := 453) C.hx C.hb dL_refuses_151 (by decide) (fun c9 => absurd c9 (by decide +kernel)) (fun _ => ?_)
  exact kk g z H locs ls hs hP hD hS hl

set_option maxRecDepth 100000 in
set_option maxHeartbeats 4000000 in
theorem tf_82 {p : Program} {l : Launch} {e : Env} {s : State} {m : MethodId} {args : Array Value} {below : List Frame} {meth : Method} {c : Code} {D : va_G} {cA : ClassId} {A : Nat → Prop} {ad : Nat → Nat} {Q : State → Prop} {g0 : Nat → Nat → Int32} {a t b : Nat} (ha : a ≤ 16) (hb9 : b ≤ 40) (hab : 0 < a → 0 < b) (C : lcx p l s m c cL_refuses 16 D cA A) (kk : ∀ (g : Nat → Nat → Int32) (z : Nat → Nat) (H : Heap) (locs : List Loc) (ls : Array Slot), SR g0 a t b g z → va_P D vwCl (rlW cA ad g z) H → va_D A (rlW cA ad g z) → va_S A s.heap H locs → lv_has ls 16 [(11, .int (-2147483648)), (10, .int (-2147483648)), (9, .int (-2147483648)), (8, .int (-2147483648)), (7, .int (-2147483648)), (6, .int (-2147483648)), (5, .int (nI 3)), (12, .int (nI 1)), (13, .int (nI 20)), (15, .int (nI 1)), (14, .int (nI 1)), (4, .int (nI (dfO g0 a a))), (3, .int (nI 2147483647)), (0, .ref (ad 70)), (1, .int (nI a)), (2, .int (nI b))] → W p l e rm_Lr s m args below meth c H locs 185 1110 Q (F0 m 284 ls [])) : ∀ (g : Nat → Nat → Int32) (z : Nat → Nat) (H : Heap) (locs : List Loc) (ls : Array Slot), SR g0 a t b g z → va_P D vwCl (rlW cA ad g z) H → va_D A (rlW cA ad g z) → va_S A s.heap H locs → lv_has ls 16 [(11, .int (-2147483648)), (10, .int (-2147483648)), (9, .int (-2147483648)), (8, .int (-2147483648)), (7, .int (-2147483648)), (6, .int (-2147483648)), (5, .int (nI 3)), (12, .int (nI 1)), (13, .int (nI 20)), (15, .int (nI 1)), (14, .int (nI 1)), (4, .int (nI (dfO g0 a a))), (3, .int (nI 2147483647)), (0, .ref (ad 70)), (1, .int (nI a)), (2, .int (nI b))] → W p l e rm_Lr s m args below meth c H locs 178 1068 Q (F0 m 154 ls []) := by
  intro g z H locs ls hs hP hD hS hl
  refine lv_aload_n C.hx C.hb dL_refuses_154 rfl (lv_at hl 13 rfl) ?_
  refine lv_iconst (v := nI 0) C.hx C.hb dL_refuses_155 (by decide +kernel) ?_
  refine lv_iload C.hx C.hb dL_refuses_156 (lv_at hl 0 rfl) ?_
  refine lv_iconst (v := nI 0) C.hx C.hb dL_refuses_158 (by decide +kernel) ?_
  refine lv_iconst (v := nI 0) C.hx C.hb dL_refuses_159 (by decide +kernel) ?_
  refine lv_iconst (v := nI 0) C.hx C.hb dL_refuses_160 (by decide +kernel) ?_
  refine q_cR (w := 0) (p0 := -2147483648) (p1 := nI 0) (p2 := nI 0) (p3 := nI 0) (r := -7000002) (c2 := 179) (s2 := 1074) C hs hP hD hS (rm_nm C.htr (Or.inr (q_r_nI (by decide))) (by decide +kernel)) hl rfl (Nat.le_of_ble_eq_true rfl) ⟨Nat.le_of_ble_eq_true rfl, Nat.le_of_ble_eq_true rfl⟩ ⟨Nat.le_of_ble_eq_true rfl, Nat.le_of_ble_eq_true rfl⟩ ⟨Nat.le_of_ble_eq_true rfl, Nat.le_of_ble_eq_true rfl⟩ dL_refuses_161 (fun g z H locs hs hP hD hS => ?_)
  refine lv_ldc (v := -7000002) C.hx C.hb C.hown (C.hT.use kk_L_93 args) dL_refuses_164 ?_
  refine lv_icmp_ne (tgt := 453) C.hx C.hb dL_refuses_166 (by decide) (fun c9 => absurd c9 (by decide +kernel)) (fun _ => ?_)
  refine lv_aload_n C.hx C.hb dL_refuses_169 rfl (lv_at hl 13 rfl) ?_
  refine lv_iconst (v := nI 0) C.hx C.hb dL_refuses_170 (by decide +kernel) ?_
  refine lv_iconst (v := nI 0) C.hx C.hb dL_refuses_171 (by decide +kernel) ?_
  refine lv_iload C.hx C.hb dL_refuses_172 (lv_at hl 6 rfl) ?_
  refine lv_iconst (v := nI 1) C.hx C.hb dL_refuses_174 (by decide +kernel) ?_
  refine lv_icmp_ne (tgt := 183) C.hx C.hb dL_refuses_175 (by decide) (fun _ => ?_) (fun c9 => absurd c9 (by decide +kernel))
  refine lv_iload C.hx C.hb dL_refuses_183 (lv_at hl 4 rfl) ?_
  refine lv_iconst (v := nI 0) C.hx C.hb dL_refuses_185 (by decide +kernel) ?_
  refine lv_iconst (v := -1) C.hx C.hb dL_refuses_186 (by decide +kernel) ?_
  refine q_cR (w := 0) (p0 := nI 0) (p1 := -2147483648) (p2 := nI 0) (p3 := -1) (r := -7000002) (c2 := 180) (s2 := 1080) C hs hP hD hS (rm_fm C.htr (Or.inl rfl) (by decide +kernel) (by decide +kernel)) hl rfl (Nat.le_of_ble_eq_true rfl) ⟨Nat.le_of_ble_eq_true rfl, Nat.le_of_ble_eq_true rfl⟩ ⟨Nat.le_of_ble_eq_true rfl, Nat.le_of_ble_eq_true rfl⟩ ⟨Nat.le_of_ble_eq_true rfl, Nat.le_of_ble_eq_true rfl⟩ dL_refuses_187 (fun g z H locs hs hP hD hS => ?_)
  refine lv_ldc (v := -7000002) C.hx C.hb C.hown (C.hT.use kk_L_93 args) dL_refuses_190 ?_
  refine lv_icmp_ne (tgt := 453) C.hx C.hb dL_refuses_192 (by decide) (fun c9 => absurd c9 (by decide +kernel)) (fun _ => ?_)
  refine lv_aload_n C.hx C.hb dL_refuses_195 rfl (lv_at hl 13 rfl) ?_
  refine lv_iconst (v := nI 0) C.hx C.hb dL_refuses_196 (by decide +kernel) ?_
  refine lv_iconst (v := nI 0) C.hx C.hb dL_refuses_197 (by decide +kernel) ?_
  refine lv_iconst (v := nI 0) C.hx C.hb dL_refuses_198 (by decide +kernel) ?_
  refine lv_iload C.hx C.hb dL_refuses_199 (lv_at hl 6 rfl) ?_
  refine lv_iconst (v := nI 1) C.hx C.hb dL_refuses_201 (by decide +kernel) ?_
  refine lv_icmp_ne (tgt := 210) C.hx C.hb dL_refuses_202 (by decide) (fun _ => ?_) (fun c9 => absurd c9 (by decide +kernel))
  refine lv_iload C.hx C.hb dL_refuses_210 (lv_at hl 5 rfl) ?_
  refine lv_bipush (v := nI 7) C.hx C.hb dL_refuses_212 (by decide +kernel) ?_
  refine q_cR (w := 0) (p0 := nI 0) (p1 := nI 0) (p2 := -2147483648) (p3 := nI 7) (r := -7000002) (c2 := 181) (s2 := 1086) C hs hP hD hS (rm_pl C.htr (Or.inr (q_r_nI (by decide))) (by decide +kernel) (by decide +kernel) (by decide +kernel)) hl rfl (Nat.le_of_ble_eq_true rfl) ⟨Nat.le_of_ble_eq_true rfl, Nat.le_of_ble_eq_true rfl⟩ ⟨Nat.le_of_ble_eq_true rfl, Nat.le_of_ble_eq_true rfl⟩ ⟨Nat.le_of_ble_eq_true rfl, Nat.le_of_ble_eq_true rfl⟩ dL_refuses_214 (fun g z H locs hs hP hD hS => ?_)
  refine lv_ldc (v := -7000002) C.hx C.hb C.hown (C.hT.use kk_L_93 args) dL_refuses_217 ?_
  refine lv_icmp_ne (tgt := 453) C.hx C.hb dL_refuses_219 (by decide) (fun c9 => absurd c9 (by decide +kernel)) (fun _ => ?_)
  refine lv_aload_n C.hx C.hb dL_refuses_222 rfl (lv_at hl 13 rfl) ?_
  refine lv_iconst (v := nI 1) C.hx C.hb dL_refuses_223 (by decide +kernel) ?_
  refine lv_iload C.hx C.hb dL_refuses_224 (lv_at hl 1 rfl) ?_
  refine lv_bipush (v := nI 99) C.hx C.hb dL_refuses_226 (by decide +kernel) ?_
  refine lv_iconst (v := nI 0) C.hx C.hb dL_refuses_228 (by decide +kernel) ?_
  refine lv_iconst (v := nI 0) C.hx C.hb dL_refuses_229 (by decide +kernel) ?_
  refine q_cR (w := 1) (p0 := -2147483648) (p1 := nI 99) (p2 := nI 0) (p3 := nI 0) (r := -7000001) (c2 := 182) (s2 := 1092) C hs hP hD hS (rr_po C.htr (notr (by decide +kernel) (by decide))) hl rfl (Nat.le_of_ble_eq_true rfl) ⟨Nat.le_of_ble_eq_true rfl, Nat.le_of_ble_eq_true rfl⟩ ⟨Nat.le_of_ble_eq_true rfl, Nat.le_of_ble_eq_true rfl⟩ ⟨Nat.le_of_ble_eq_true rfl, Nat.le_of_ble_eq_true rfl⟩ dL_refuses_230 (fun g z H locs hs hP hD hS => ?_)
  refine lv_ldc (v := -7000001) C.hx C.hb C.hown (C.hT.use kk_L_90 args) dL_refuses_233 ?_
  refine lv_icmp_ne (tgt := 453) C.hx C.hb dL_refuses_235 (by decide) (fun c9 => absurd c9 (by decide +kernel)) (fun _ => ?_)
  refine lv_aload_n C.hx C.hb dL_refuses_238 rfl (lv_at hl 13 rfl) ?_
  refine lv_iconst (v := nI 1) C.hx C.hb dL_refuses_239 (by decide +kernel) ?_
  refine lv_iconst (v := nI 0) C.hx C.hb dL_refuses_240 (by decide +kernel) ?_
  refine lv_iload C.hx C.hb dL_refuses_241 (lv_at hl 0 rfl) ?_
  refine lv_iconst (v := nI 0) C.hx C.hb dL_refuses_243 (by decide +kernel) ?_
  refine lv_iconst (v := nI 0) C.hx C.hb dL_refuses_244 (by decide +kernel) ?_
  refine q_cR (w := 1) (p0 := nI 0) (p1 := -2147483648) (p2 := nI 0) (p3 := nI 0) (r := -7000002) (c2 := 183) (s2 := 1098) C hs hP hD hS (rr_rk C.htr (q_r_nI (by decide)) (by decide +kernel)) hl rfl (Nat.le_of_ble_eq_true rfl) ⟨Nat.le_of_ble_eq_true rfl, Nat.le_of_ble_eq_true rfl⟩ ⟨Nat.le_of_ble_eq_true rfl, Nat.le_of_ble_eq_true rfl⟩ ⟨Nat.le_of_ble_eq_true rfl, Nat.le_of_ble_eq_true rfl⟩ dL_refuses_245 (fun g z H locs hs hP hD hS => ?_)
  refine lv_ldc (v := -7000002) C.hx C.hb C.hown (C.hT.use kk_L_93 args) dL_refuses_248 ?_
  refine lv_icmp_ne (tgt := 453) C.hx C.hb dL_refuses_250 (by decide) (fun c9 => absurd c9 (by decide +kernel)) (fun _ => ?_)
  refine lv_aload_n C.hx C.hb dL_refuses_253 rfl (lv_at hl 13 rfl) ?_
  refine lv_iconst (v := nI 2) C.hx C.hb dL_refuses_254 (by decide +kernel) ?_
  refine lv_iload C.hx C.hb dL_refuses_255 (lv_at hl 1 rfl) ?_
  refine lv_iload C.hx C.hb dL_refuses_257 (lv_at hl 1 rfl) ?_
  refine lv_iconst (v := nI 1) C.hx C.hb dL_refuses_259 (by decide +kernel) ?_
  refine lv_iconst (v := nI 0) C.hx C.hb dL_refuses_260 (by decide +kernel) ?_
  refine q_cR (w := 2) (p0 := -2147483648) (p1 := -2147483648) (p2 := nI 1) (p3 := nI 0) (r := -7000001) (c2 := 184) (s2 := 1104) C hs hP hD hS (rb_1 C.htr (notr (by decide +kernel) (by decide))) hl rfl (Nat.le_of_ble_eq_true rfl) ⟨Nat.le_of_ble_eq_true rfl, Nat.le_of_ble_eq_true rfl⟩ ⟨Nat.le_of_ble_eq_true rfl, Nat.le_of_ble_eq_true rfl⟩ ⟨Nat.le_of_ble_eq_true rfl, Nat.le_of_ble_eq_true rfl⟩ dL_refuses_261 (fun g z H locs hs hP hD hS => ?_)
  refine lv_ldc (v := -7000001) C.hx C.hb C.hown (C.hT.use kk_L_90 args) dL_refuses_264 ?_
  refine lv_icmp_ne (tgt := 453) C.hx C.hb dL_refuses_266 (by decide) (fun c9 => absurd c9 (by decide +kernel)) (fun _ => ?_)
  refine lv_aload_n C.hx C.hb dL_refuses_269 rfl (lv_at hl 13 rfl) ?_
  refine lv_iconst (v := nI 2) C.hx C.hb dL_refuses_270 (by decide +kernel) ?_
  refine lv_iconst (v := nI 0) C.hx C.hb dL_refuses_271 (by decide +kernel) ?_
  refine lv_iload C.hx C.hb dL_refuses_272 (lv_at hl 1 rfl) ?_
  refine lv_iconst (v := nI 1) C.hx C.hb dL_refuses_274 (by decide +kernel) ?_
  refine lv_iconst (v := nI 0) C.hx C.hb dL_refuses_275 (by decide +kernel) ?_
  refine q_cR (w := 2) (p0 := nI 0) (p1 := -2147483648) (p2 := nI 1) (p3 := nI 0) (r := -7000001) (c2 := 185) (s2 := 1110) C hs hP hD hS (rb_2 C.htr (q_r_nI (by decide)) (notr (by decide +kernel) (by decide))) hl rfl (Nat.le_of_ble_eq_true rfl) ⟨Nat.le_of_ble_eq_true rfl, Nat.le_of_ble_eq_true rfl⟩ ⟨Nat.le_of_ble_eq_true rfl, Nat.le_of_ble_eq_true rfl⟩ ⟨Nat.le_of_ble_eq_true rfl, Nat.le_of_ble_eq_true rfl⟩ dL_refuses_276 (fun g z H locs hs hP hD hS => ?_)
  refine lv_ldc (v := -7000001) C.hx C.hb C.hown (C.hT.use kk_L_90 args) dL_refuses_279 ?_
  refine lv_icmp_ne (tgt := 453) C.hx C.hb dL_refuses_281 (by decide) (fun c9 => absurd c9 (by decide +kernel)) (fun _ => ?_)
  exact kk g z H locs ls hs hP hD hS hl

set_option maxRecDepth 100000 in
set_option maxHeartbeats 4000000 in
theorem tf_83 {p : Program} {l : Launch} {e : Env} {s : State} {m : MethodId} {args : Array Value} {below : List Frame} {meth : Method} {c : Code} {D : va_G} {cA : ClassId} {A : Nat → Prop} {ad : Nat → Nat} {Q : State → Prop} {g0 : Nat → Nat → Int32} {a t b : Nat} (ha : a ≤ 16) (hb9 : b ≤ 40) (hab : 0 < a → 0 < b) (C : lcx p l s m c cL_refuses 16 D cA A) (kk : ∀ (g : Nat → Nat → Int32) (z : Nat → Nat) (H : Heap) (locs : List Loc) (ls : Array Slot), SR g0 a t b g z → va_P D vwCl (rlW cA ad g z) H → va_D A (rlW cA ad g z) → va_S A s.heap H locs → lv_has ls 16 [(11, .int (-2147483648)), (10, .int (-2147483648)), (9, .int (-2147483648)), (8, .int (-2147483648)), (7, .int (-2147483648)), (6, .int (-2147483648)), (5, .int (nI 3)), (12, .int (nI 1)), (13, .int (nI 20)), (15, .int (nI 1)), (14, .int (nI 1)), (4, .int (nI (dfO g0 a a))), (3, .int (nI 2147483647)), (0, .ref (ad 70)), (1, .int (nI a)), (2, .int (nI b))] → W p l e rm_Lr s m args below meth c H locs 192 1152 Q (F0 m 404 ls [])) : ∀ (g : Nat → Nat → Int32) (z : Nat → Nat) (H : Heap) (locs : List Loc) (ls : Array Slot), SR g0 a t b g z → va_P D vwCl (rlW cA ad g z) H → va_D A (rlW cA ad g z) → va_S A s.heap H locs → lv_has ls 16 [(11, .int (-2147483648)), (10, .int (-2147483648)), (9, .int (-2147483648)), (8, .int (-2147483648)), (7, .int (-2147483648)), (6, .int (-2147483648)), (5, .int (nI 3)), (12, .int (nI 1)), (13, .int (nI 20)), (15, .int (nI 1)), (14, .int (nI 1)), (4, .int (nI (dfO g0 a a))), (3, .int (nI 2147483647)), (0, .ref (ad 70)), (1, .int (nI a)), (2, .int (nI b))] → W p l e rm_Lr s m args below meth c H locs 185 1110 Q (F0 m 284 ls []) := by
  intro g z H locs ls hs hP hD hS hl
  refine lv_aload_n C.hx C.hb dL_refuses_284 rfl (lv_at hl 13 rfl) ?_
  refine lv_iconst (v := nI 2) C.hx C.hb dL_refuses_285 (by decide +kernel) ?_
  refine lv_iconst (v := nI 3) C.hx C.hb dL_refuses_286 (by decide +kernel) ?_
  refine lv_iconst (v := nI 3) C.hx C.hb dL_refuses_287 (by decide +kernel) ?_
  refine lv_iconst (v := nI 1) C.hx C.hb dL_refuses_288 (by decide +kernel) ?_
  refine lv_iconst (v := nI 0) C.hx C.hb dL_refuses_289 (by decide +kernel) ?_
  refine q_cR (w := 2) (p0 := nI 3) (p1 := nI 3) (p2 := nI 1) (p3 := nI 0) (r := -7000002) (c2 := 186) (s2 := 1116) C hs hP hD hS (rb_3 C.htr (q_r_nI (by decide))) hl rfl (Nat.le_of_ble_eq_true rfl) ⟨Nat.le_of_ble_eq_true rfl, Nat.le_of_ble_eq_true rfl⟩ ⟨Nat.le_of_ble_eq_true rfl, Nat.le_of_ble_eq_true rfl⟩ ⟨Nat.le_of_ble_eq_true rfl, Nat.le_of_ble_eq_true rfl⟩ dL_refuses_290 (fun g z H locs hs hP hD hS => ?_)
  refine lv_ldc (v := -7000002) C.hx C.hb C.hown (C.hT.use kk_L_93 args) dL_refuses_293 ?_
  refine lv_icmp_ne (tgt := 453) C.hx C.hb dL_refuses_295 (by decide) (fun c9 => absurd c9 (by decide +kernel)) (fun _ => ?_)
  refine lv_aload_n C.hx C.hb dL_refuses_298 rfl (lv_at hl 13 rfl) ?_
  refine lv_iconst (v := nI 4) C.hx C.hb dL_refuses_299 (by decide +kernel) ?_
  refine lv_iload C.hx C.hb dL_refuses_300 (lv_at hl 3 rfl) ?_
  refine lv_iconst (v := nI 5) C.hx C.hb dL_refuses_302 (by decide +kernel) ?_
  refine lv_iconst (v := nI 4) C.hx C.hb dL_refuses_303 (by decide +kernel) ?_
  refine lv_iconst (v := nI 0) C.hx C.hb dL_refuses_304 (by decide +kernel) ?_
  refine q_cR (w := 4) (p0 := -2147483648) (p1 := nI 5) (p2 := nI 4) (p3 := nI 0) (r := -7000001) (c2 := 187) (s2 := 1122) C hs hP hD hS (ri_find C.htr (notr (by decide +kernel) (by omega))) hl rfl (Nat.le_of_ble_eq_true rfl) ⟨Nat.le_of_ble_eq_true rfl, Nat.le_of_ble_eq_true rfl⟩ ⟨Nat.le_of_ble_eq_true rfl, Nat.le_of_ble_eq_true rfl⟩ ⟨Nat.le_of_ble_eq_true rfl, Nat.le_of_ble_eq_true rfl⟩ dL_refuses_305 (fun g z H locs hs hP hD hS => ?_)
  refine lv_ldc (v := -7000001) C.hx C.hb C.hown (C.hT.use kk_L_90 args) dL_refuses_308 ?_
  refine lv_icmp_ne (tgt := 453) C.hx C.hb dL_refuses_310 (by decide) (fun c9 => absurd c9 (by decide +kernel)) (fun _ => ?_)
  refine lv_aload_n C.hx C.hb dL_refuses_313 rfl (lv_at hl 13 rfl) ?_
  refine lv_iconst (v := nI 5) C.hx C.hb dL_refuses_314 (by decide +kernel) ?_
  refine lv_iload C.hx C.hb dL_refuses_315 (lv_at hl 3 rfl) ?_
  refine lv_iconst (v := nI 5) C.hx C.hb dL_refuses_317 (by decide +kernel) ?_
  refine lv_iconst (v := nI 4) C.hx C.hb dL_refuses_318 (by decide +kernel) ?_
  refine lv_iconst (v := nI 0) C.hx C.hb dL_refuses_319 (by decide +kernel) ?_
  refine q_cR (w := 5) (p0 := -2147483648) (p1 := nI 5) (p2 := nI 4) (p3 := nI 0) (r := -7000001) (c2 := 188) (s2 := 1128) C hs hP hD hS (ri_wouldMove C.htr (notr (by decide +kernel) (by omega))) hl rfl (Nat.le_of_ble_eq_true rfl) ⟨Nat.le_of_ble_eq_true rfl, Nat.le_of_ble_eq_true rfl⟩ ⟨Nat.le_of_ble_eq_true rfl, Nat.le_of_ble_eq_true rfl⟩ ⟨Nat.le_of_ble_eq_true rfl, Nat.le_of_ble_eq_true rfl⟩ dL_refuses_320 (fun g z H locs hs hP hD hS => ?_)
  refine lv_ldc (v := -7000001) C.hx C.hb C.hown (C.hT.use kk_L_90 args) dL_refuses_323 ?_
  refine lv_icmp_ne (tgt := 453) C.hx C.hb dL_refuses_325 (by decide) (fun c9 => absurd c9 (by decide +kernel)) (fun _ => ?_)
  refine lv_aload_n C.hx C.hb dL_refuses_328 rfl (lv_at hl 13 rfl) ?_
  refine lv_bipush (v := nI 17) C.hx C.hb dL_refuses_329 (by decide +kernel) ?_
  refine lv_iload C.hx C.hb dL_refuses_331 (lv_at hl 2 rfl) ?_
  refine lv_iconst (v := nI 0) C.hx C.hb dL_refuses_333 (by decide +kernel) ?_
  refine lv_iconst (v := nI 0) C.hx C.hb dL_refuses_334 (by decide +kernel) ?_
  refine lv_iconst (v := nI 0) C.hx C.hb dL_refuses_335 (by decide +kernel) ?_
  refine q_cR (w := 17) (p0 := -2147483648) (p1 := nI 0) (p2 := nI 0) (p3 := nI 0) (r := -7000001) (c2 := 189) (s2 := 1134) C hs hP hD hS (ri_careerAt C.htr (notr (by decide +kernel) (by omega))) hl rfl (Nat.le_of_ble_eq_true rfl) ⟨Nat.le_of_ble_eq_true rfl, Nat.le_of_ble_eq_true rfl⟩ ⟨Nat.le_of_ble_eq_true rfl, Nat.le_of_ble_eq_true rfl⟩ ⟨Nat.le_of_ble_eq_true rfl, Nat.le_of_ble_eq_true rfl⟩ dL_refuses_336 (fun g z H locs hs hP hD hS => ?_)
  refine lv_ldc (v := -7000001) C.hx C.hb C.hown (C.hT.use kk_L_90 args) dL_refuses_339 ?_
  refine lv_icmp_ne (tgt := 453) C.hx C.hb dL_refuses_341 (by decide) (fun c9 => absurd c9 (by decide +kernel)) (fun _ => ?_)
  refine lv_aload_n C.hx C.hb dL_refuses_344 rfl (lv_at hl 13 rfl) ?_
  refine lv_bipush (v := nI 20) C.hx C.hb dL_refuses_345 (by decide +kernel) ?_
  refine lv_iload C.hx C.hb dL_refuses_347 (lv_at hl 2 rfl) ?_
  refine lv_iconst (v := nI 0) C.hx C.hb dL_refuses_349 (by decide +kernel) ?_
  refine lv_iconst (v := nI 0) C.hx C.hb dL_refuses_350 (by decide +kernel) ?_
  refine lv_iconst (v := nI 0) C.hx C.hb dL_refuses_351 (by decide +kernel) ?_
  refine q_cR (w := 20) (p0 := -2147483648) (p1 := nI 0) (p2 := nI 0) (p3 := nI 0) (r := -7000001) (c2 := 190) (s2 := 1140) C hs hP hD hS (ri_degree C.htr (notr (by decide +kernel) (by omega))) hl rfl (Nat.le_of_ble_eq_true rfl) ⟨Nat.le_of_ble_eq_true rfl, Nat.le_of_ble_eq_true rfl⟩ ⟨Nat.le_of_ble_eq_true rfl, Nat.le_of_ble_eq_true rfl⟩ ⟨Nat.le_of_ble_eq_true rfl, Nat.le_of_ble_eq_true rfl⟩ dL_refuses_352 (fun g z H locs hs hP hD hS => ?_)
  refine lv_ldc (v := -7000001) C.hx C.hb C.hown (C.hT.use kk_L_90 args) dL_refuses_355 ?_
  refine lv_icmp_ne (tgt := 453) C.hx C.hb dL_refuses_357 (by decide) (fun c9 => absurd c9 (by decide +kernel)) (fun _ => ?_)
  refine lv_aload_n C.hx C.hb dL_refuses_360 rfl (lv_at hl 13 rfl) ?_
  refine lv_bipush (v := nI 20) C.hx C.hb dL_refuses_361 (by decide +kernel) ?_
  refine lv_iconst (v := nI 0) C.hx C.hb dL_refuses_363 (by decide +kernel) ?_
  refine lv_iload C.hx C.hb dL_refuses_364 (lv_at hl 2 rfl) ?_
  refine lv_iconst (v := nI 0) C.hx C.hb dL_refuses_366 (by decide +kernel) ?_
  refine lv_iconst (v := nI 0) C.hx C.hb dL_refuses_367 (by decide +kernel) ?_
  refine q_cR (w := 20) (p0 := nI 0) (p1 := -2147483648) (p2 := nI 0) (p3 := nI 0) (r := -7000001) (c2 := 191) (s2 := 1146) C hs hP hD hS (rj_degree C.htr (notr (by decide +kernel) (by omega))) hl rfl (Nat.le_of_ble_eq_true rfl) ⟨Nat.le_of_ble_eq_true rfl, Nat.le_of_ble_eq_true rfl⟩ ⟨Nat.le_of_ble_eq_true rfl, Nat.le_of_ble_eq_true rfl⟩ ⟨Nat.le_of_ble_eq_true rfl, Nat.le_of_ble_eq_true rfl⟩ dL_refuses_368 (fun g z H locs hs hP hD hS => ?_)
  refine lv_ldc (v := -7000001) C.hx C.hb C.hown (C.hT.use kk_L_90 args) dL_refuses_371 ?_
  refine lv_icmp_ne (tgt := 453) C.hx C.hb dL_refuses_373 (by decide) (fun c9 => absurd c9 (by decide +kernel)) (fun _ => ?_)
  refine lv_aload_n C.hx C.hb dL_refuses_376 rfl (lv_at hl 13 rfl) ?_
  refine lv_bipush (v := nI 21) C.hx C.hb dL_refuses_377 (by decide +kernel) ?_
  refine lv_iload C.hx C.hb dL_refuses_379 (lv_at hl 6 rfl) ?_
  refine lv_iconst (v := nI 1) C.hx C.hb dL_refuses_381 (by decide +kernel) ?_
  refine lv_icmp_ne (tgt := 391) C.hx C.hb dL_refuses_382 (by decide) (fun _ => ?_) (fun c9 => absurd c9 (by decide +kernel))
  refine lv_iload C.hx C.hb dL_refuses_391 (lv_at hl 5 rfl) ?_
  refine lv_iconst (v := nI 0) C.hx C.hb dL_refuses_393 (by decide +kernel) ?_
  refine lv_iconst (v := nI 0) C.hx C.hb dL_refuses_394 (by decide +kernel) ?_
  refine lv_iconst (v := nI 0) C.hx C.hb dL_refuses_395 (by decide +kernel) ?_
  refine q_cR (w := 21) (p0 := -2147483648) (p1 := nI 0) (p2 := nI 0) (p3 := nI 0) (r := -7000002) (c2 := 192) (s2 := 1152) C hs hP hD hS (rt_best C.htr (shB (by decide +kernel) ha)) hl rfl (Nat.le_of_ble_eq_true rfl) ⟨Nat.le_of_ble_eq_true rfl, Nat.le_of_ble_eq_true rfl⟩ ⟨Nat.le_of_ble_eq_true rfl, Nat.le_of_ble_eq_true rfl⟩ ⟨Nat.le_of_ble_eq_true rfl, Nat.le_of_ble_eq_true rfl⟩ dL_refuses_396 (fun g z H locs hs hP hD hS => ?_)
  refine lv_ldc (v := -7000002) C.hx C.hb C.hown (C.hT.use kk_L_93 args) dL_refuses_399 ?_
  refine lv_icmp_ne (tgt := 453) C.hx C.hb dL_refuses_401 (by decide) (fun c9 => absurd c9 (by decide +kernel)) (fun _ => ?_)
  exact kk g z H locs ls hs hP hD hS hl

set_option maxRecDepth 100000 in
set_option maxHeartbeats 4000000 in
theorem tf_84 {p : Program} {l : Launch} {e : Env} {s : State} {m : MethodId} {args : Array Value} {below : List Frame} {meth : Method} {c : Code} {D : va_G} {cA : ClassId} {A : Nat → Prop} {ad : Nat → Nat} {Q : State → Prop} {g0 : Nat → Nat → Int32} {a t b : Nat} (ha : a ≤ 16) (hb9 : b ≤ 40) (hab : 0 < a → 0 < b) (C : lcx p l s m c cL_refuses 16 D cA A) (kk : ∀ (g : Nat → Nat → Int32) (z : Nat → Nat) (H : Heap) (locs : List Loc) (ls : Array Slot), SR g0 a t b g z → va_P D vwCl (rlW cA ad g z) H → va_D A (rlW cA ad g z) → va_S A s.heap H locs → lv_has ls 16 [(12, .int (nI 1)), (15, .int (nI 1)), (14, .int (nI 1)), (13, .int (nI 3)), (11, .int (-2147483648)), (10, .int (-2147483648)), (9, .int (-2147483648)), (8, .int (-2147483648)), (7, .int (-2147483648)), (6, .int (-2147483648)), (5, .int (nI 3)), (4, .int (nI (dfO g0 a a))), (3, .int (nI 2147483647)), (0, .ref (ad 70)), (1, .int (nI a)), (2, .int (nI b))] → W p l e rm_Lr s m args below meth c H locs 195 1170 Q (F0 m 577 ls [])) : ∀ (g : Nat → Nat → Int32) (z : Nat → Nat) (H : Heap) (locs : List Loc) (ls : Array Slot), SR g0 a t b g z → va_P D vwCl (rlW cA ad g z) H → va_D A (rlW cA ad g z) → va_S A s.heap H locs → lv_has ls 16 [(11, .int (-2147483648)), (10, .int (-2147483648)), (9, .int (-2147483648)), (8, .int (-2147483648)), (7, .int (-2147483648)), (6, .int (-2147483648)), (5, .int (nI 3)), (12, .int (nI 1)), (13, .int (nI 20)), (15, .int (nI 1)), (14, .int (nI 1)), (4, .int (nI (dfO g0 a a))), (3, .int (nI 2147483647)), (0, .ref (ad 70)), (1, .int (nI a)), (2, .int (nI b))] → W p l e rm_Lr s m args below meth c H locs 192 1152 Q (F0 m 404 ls []) := by
  intro g z H locs ls hs hP hD hS hl
  refine lv_aload_n C.hx C.hb dL_refuses_404 rfl (lv_at hl 13 rfl) ?_
  refine lv_bipush (v := nI 22) C.hx C.hb dL_refuses_405 (by decide +kernel) ?_
  refine lv_iload C.hx C.hb dL_refuses_407 (lv_at hl 6 rfl) ?_
  refine lv_iconst (v := nI 1) C.hx C.hb dL_refuses_409 (by decide +kernel) ?_
  refine lv_icmp_ne (tgt := 419) C.hx C.hb dL_refuses_410 (by decide) (fun _ => ?_) (fun c9 => absurd c9 (by decide +kernel))
  refine lv_iload C.hx C.hb dL_refuses_419 (lv_at hl 5 rfl) ?_
  refine lv_iconst (v := nI 0) C.hx C.hb dL_refuses_421 (by decide +kernel) ?_
  refine lv_iconst (v := nI 0) C.hx C.hb dL_refuses_422 (by decide +kernel) ?_
  refine lv_iconst (v := nI 0) C.hx C.hb dL_refuses_423 (by decide +kernel) ?_
  refine q_cR (w := 22) (p0 := -2147483648) (p1 := nI 0) (p2 := nI 0) (p3 := nI 0) (r := -7000002) (c2 := 193) (s2 := 1158) C hs hP hD hS (rt_bestAnew C.htr (shB (by decide +kernel) ha)) hl rfl (Nat.le_of_ble_eq_true rfl) ⟨Nat.le_of_ble_eq_true rfl, Nat.le_of_ble_eq_true rfl⟩ ⟨Nat.le_of_ble_eq_true rfl, Nat.le_of_ble_eq_true rfl⟩ ⟨Nat.le_of_ble_eq_true rfl, Nat.le_of_ble_eq_true rfl⟩ dL_refuses_424 (fun g z H locs hs hP hD hS => ?_)
  refine lv_ldc (v := -7000002) C.hx C.hb C.hown (C.hT.use kk_L_93 args) dL_refuses_427 ?_
  refine lv_icmp_ne (tgt := 453) C.hx C.hb dL_refuses_429 (by decide) (fun c9 => absurd c9 (by decide +kernel)) (fun _ => ?_)
  refine lv_aload_n C.hx C.hb dL_refuses_432 rfl (lv_at hl 13 rfl) ?_
  refine lv_bipush (v := nI 23) C.hx C.hb dL_refuses_433 (by decide +kernel) ?_
  refine lv_iload C.hx C.hb dL_refuses_435 (lv_at hl 3 rfl) ?_
  refine lv_bipush (v := nI 99) C.hx C.hb dL_refuses_437 (by decide +kernel) ?_
  refine lv_iconst (v := nI 0) C.hx C.hb dL_refuses_439 (by decide +kernel) ?_
  refine lv_iconst (v := nI 0) C.hx C.hb dL_refuses_440 (by decide +kernel) ?_
  refine q_cR (w := 23) (p0 := -2147483648) (p1 := nI 99) (p2 := nI 0) (p3 := nI 0) (r := -7000001) (c2 := 194) (s2 := 1164) C hs hP hD hS (ri_rival C.htr (notr (by decide +kernel) (by omega))) hl rfl (Nat.le_of_ble_eq_true rfl) ⟨Nat.le_of_ble_eq_true rfl, Nat.le_of_ble_eq_true rfl⟩ ⟨Nat.le_of_ble_eq_true rfl, Nat.le_of_ble_eq_true rfl⟩ ⟨Nat.le_of_ble_eq_true rfl, Nat.le_of_ble_eq_true rfl⟩ dL_refuses_441 (fun g z H locs hs hP hD hS => ?_)
  refine lv_ldc (v := -7000001) C.hx C.hb C.hown (C.hT.use kk_L_90 args) dL_refuses_444 ?_
  refine lv_icmp_ne (tgt := 453) C.hx C.hb dL_refuses_446 (by decide) (fun c9 => absurd c9 (by decide +kernel)) (fun _ => ?_)
  refine lv_iconst (v := nI 1) C.hx C.hb dL_refuses_449 (by decide +kernel) ?_
  refine lv_goto (tgt := 454) C.hx C.hb dL_refuses_450 (by decide) ?_
  refine lv_istore (lv' := [(12, .int (nI 1)), (11, .int (-2147483648)), (10, .int (-2147483648)), (9, .int (-2147483648)), (8, .int (-2147483648)), (7, .int (-2147483648)), (6, .int (-2147483648)), (5, .int (nI 3)), (13, .int (nI 20)), (15, .int (nI 1)), (14, .int (nI 1)), (4, .int (nI (dfO g0 a a))), (3, .int (nI 2147483647)), (0, .ref (ad 70)), (1, .int (nI a)), (2, .int (nI b))]) C.hx C.hb dL_refuses_454 hl (by decide) rfl (fun ls hl => ?_)
  refine lv_iconst (v := nI 3) C.hx C.hb dL_refuses_456 (by decide +kernel) ?_
  refine lv_istore (lv' := [(13, .int (nI 3)), (12, .int (nI 1)), (11, .int (-2147483648)), (10, .int (-2147483648)), (9, .int (-2147483648)), (8, .int (-2147483648)), (7, .int (-2147483648)), (6, .int (-2147483648)), (5, .int (nI 3)), (15, .int (nI 1)), (14, .int (nI 1)), (4, .int (nI (dfO g0 a a))), (3, .int (nI 2147483647)), (0, .ref (ad 70)), (1, .int (nI a)), (2, .int (nI b))]) C.hx C.hb dL_refuses_457 hl (by decide) rfl (fun ls hl => ?_)
  refine lv_iload C.hx C.hb dL_refuses_459 (lv_at hl 0 rfl) ?_
  refine lv_bipush (v := nI 20) C.hx C.hb dL_refuses_461 (by decide +kernel) ?_
  refine lv_icmp_ge (tgt := 687) C.hx C.hb dL_refuses_463 (by decide) (fun c9 => absurd c9 (by decide +kernel)) (fun _ => ?_)
  refine lv_iload C.hx C.hb dL_refuses_466 (lv_at hl 1 rfl) ?_
  refine lv_if_eq (tgt := 687) C.hx C.hb dL_refuses_468 (by decide) (fun c9 => absurd c9 (by decide +kernel)) (fun _ => ?_)
  refine lv_iload C.hx C.hb dL_refuses_471 (lv_at hl 0 rfl) ?_
  refine lv_iconst (v := nI 4) C.hx C.hb dL_refuses_473 (by decide +kernel) ?_
  refine lv_icmp_lt (tgt := 497) C.hx C.hb dL_refuses_474 (by decide) (fun _ => ?_) (fun c9 => absurd c9 (by decide +kernel))
  refine lv_iconst (v := nI 1) C.hx C.hb dL_refuses_497 (by decide +kernel) ?_
  refine lv_goto (tgt := 502) C.hx C.hb dL_refuses_498 (by decide) ?_
  refine lv_istore (lv' := [(14, .int (nI 1)), (13, .int (nI 3)), (12, .int (nI 1)), (11, .int (-2147483648)), (10, .int (-2147483648)), (9, .int (-2147483648)), (8, .int (-2147483648)), (7, .int (-2147483648)), (6, .int (-2147483648)), (5, .int (nI 3)), (15, .int (nI 1)), (4, .int (nI (dfO g0 a a))), (3, .int (nI 2147483647)), (0, .ref (ad 70)), (1, .int (nI a)), (2, .int (nI b))]) C.hx C.hb dL_refuses_502 hl (by decide) rfl (fun ls hl => ?_)
  refine lv_iload C.hx C.hb dL_refuses_504 (lv_at hl 1 rfl) ?_
  refine lv_iconst (v := nI 3) C.hx C.hb dL_refuses_506 (by decide +kernel) ?_
  refine lv_icmp_eq (tgt := 531) C.hx C.hb dL_refuses_507 (by decide) (fun _ => ?_) (fun c9 => absurd c9 (by decide +kernel))
  refine lv_iconst (v := nI 1) C.hx C.hb dL_refuses_531 (by decide +kernel) ?_
  refine lv_goto (tgt := 536) C.hx C.hb dL_refuses_532 (by decide) ?_
  refine lv_istore (lv' := [(15, .int (nI 1)), (14, .int (nI 1)), (13, .int (nI 3)), (12, .int (nI 1)), (11, .int (-2147483648)), (10, .int (-2147483648)), (9, .int (-2147483648)), (8, .int (-2147483648)), (7, .int (-2147483648)), (6, .int (-2147483648)), (5, .int (nI 3)), (4, .int (nI (dfO g0 a a))), (3, .int (nI 2147483647)), (0, .ref (ad 70)), (1, .int (nI a)), (2, .int (nI b))]) C.hx C.hb dL_refuses_536 hl (by decide) rfl (fun ls hl => ?_)
  refine lv_iload C.hx C.hb dL_refuses_538 (lv_at hl 1 rfl) ?_
  refine lv_if_eq (tgt := 567) C.hx C.hb dL_refuses_540 (by decide) (fun c9 => absurd c9 (by decide +kernel)) (fun _ => ?_)
  refine lv_aload_n C.hx C.hb dL_refuses_543 rfl (lv_at hl 13 rfl) ?_
  refine lv_iload C.hx C.hb dL_refuses_544 (lv_at hl 2 rfl) ?_
  refine lv_iload C.hx C.hb dL_refuses_546 (lv_at hl 7 rfl) ?_
  refine lv_iconst (v := nI 0) C.hx C.hb dL_refuses_548 (by decide +kernel) ?_
  refine lv_bipush (v := nI 99) C.hx C.hb dL_refuses_549 (by decide +kernel) ?_
  refine lv_iconst (v := nI 0) C.hx C.hb dL_refuses_551 (by decide +kernel) ?_
  refine q_cR (w := 3) (p0 := -2147483648) (p1 := nI 0) (p2 := nI 99) (p3 := nI 0) (r := -7000001) (c2 := 195) (s2 := 1170) C hs hP hD hS (ri_ahead C.htr (notr (by decide +kernel) (by omega))) hl rfl (Nat.le_of_ble_eq_true rfl) ⟨Nat.le_of_ble_eq_true rfl, Nat.le_of_ble_eq_true rfl⟩ ⟨Nat.le_of_ble_eq_true rfl, Nat.le_of_ble_eq_true rfl⟩ ⟨Nat.le_of_ble_eq_true rfl, Nat.le_of_ble_eq_true rfl⟩ dL_refuses_552 (fun g z H locs hs hP hD hS => ?_)
  refine lv_ldc (v := -7000001) C.hx C.hb C.hown (C.hT.use kk_L_90 args) dL_refuses_555 ?_
  refine lv_icmp_ne (tgt := 564) C.hx C.hb dL_refuses_557 (by decide) (fun c9 => absurd c9 (by decide +kernel)) (fun _ => ?_)
  refine lv_iconst (v := nI 1) C.hx C.hb dL_refuses_560 (by decide +kernel) ?_
  refine lv_goto (tgt := 565) C.hx C.hb dL_refuses_561 (by decide) ?_
  refine lv_istore (lv' := [(12, .int (nI 1)), (15, .int (nI 1)), (14, .int (nI 1)), (13, .int (nI 3)), (11, .int (-2147483648)), (10, .int (-2147483648)), (9, .int (-2147483648)), (8, .int (-2147483648)), (7, .int (-2147483648)), (6, .int (-2147483648)), (5, .int (nI 3)), (4, .int (nI (dfO g0 a a))), (3, .int (nI 2147483647)), (0, .ref (ad 70)), (1, .int (nI a)), (2, .int (nI b))]) C.hx C.hb dL_refuses_565 hl (by decide) rfl (fun ls hl => ?_)
  refine lv_iload C.hx C.hb dL_refuses_567 (lv_at hl 1 rfl) ?_
  refine lv_if_eq (tgt := 637) C.hx C.hb dL_refuses_569 (by decide) (fun c9 => absurd c9 (by decide +kernel)) (fun _ => ?_)
  refine lv_iload C.hx C.hb dL_refuses_572 (lv_at hl 0 rfl) ?_
  refine lv_if_eq (tgt := 634) C.hx C.hb dL_refuses_574 (by decide) (fun c9 => absurd c9 (by decide +kernel)) (fun _ => ?_)
  exact kk g z H locs ls hs hP hD hS hl

set_option maxRecDepth 100000 in
set_option maxHeartbeats 4000000 in
theorem tf_85 {p : Program} {l : Launch} {e : Env} {s : State} {m : MethodId} {args : Array Value} {below : List Frame} {meth : Method} {c : Code} {D : va_G} {cA : ClassId} {A : Nat → Prop} {ad : Nat → Nat} {Q : State → Prop} {g0 : Nat → Nat → Int32} {a t b : Nat} (ha : a ≤ 16) (hb9 : b ≤ 40) (hab : 0 < a → 0 < b) (C : lcx p l s m c cL_refuses 16 D cA A) (kk : ∀ (g : Nat → Nat → Int32) (z : Nat → Nat) (H : Heap) (locs : List Loc) (ls : Array Slot), SR g0 a t b g z → va_P D vwCl (rlW cA ad g z) H → va_D A (rlW cA ad g z) → va_S A s.heap H locs → lv_has ls 16 [(12, .int (nI 1)), (15, .int (nI 1)), (14, .int (nI 1)), (13, .int (nI 3)), (11, .int (-2147483648)), (10, .int (-2147483648)), (9, .int (-2147483648)), (8, .int (-2147483648)), (7, .int (-2147483648)), (6, .int (-2147483648)), (5, .int (nI 3)), (4, .int (nI (dfO g0 a a))), (3, .int (nI 2147483647)), (0, .ref (ad 70)), (1, .int (nI a)), (2, .int (nI b))] → W p l e rm_Lr s m args below meth c H locs 198 1188 Q (F0 m 630 ls [])) : ∀ (g : Nat → Nat → Int32) (z : Nat → Nat) (H : Heap) (locs : List Loc) (ls : Array Slot), SR g0 a t b g z → va_P D vwCl (rlW cA ad g z) H → va_D A (rlW cA ad g z) → va_S A s.heap H locs → lv_has ls 16 [(12, .int (nI 1)), (15, .int (nI 1)), (14, .int (nI 1)), (13, .int (nI 3)), (11, .int (-2147483648)), (10, .int (-2147483648)), (9, .int (-2147483648)), (8, .int (-2147483648)), (7, .int (-2147483648)), (6, .int (-2147483648)), (5, .int (nI 3)), (4, .int (nI (dfO g0 a a))), (3, .int (nI 2147483647)), (0, .ref (ad 70)), (1, .int (nI a)), (2, .int (nI b))] → W p l e rm_Lr s m args below meth c H locs 195 1170 Q (F0 m 577 ls []) := by
  intro g z H locs ls hs hP hD hS hl
  refine lv_aload_n C.hx C.hb dL_refuses_577 rfl (lv_at hl 13 rfl) ?_
  refine lv_iload C.hx C.hb dL_refuses_578 (lv_at hl 3 rfl) ?_
  refine lv_iconst (v := nI 0) C.hx C.hb dL_refuses_580 (by decide +kernel) ?_
  refine lv_iload C.hx C.hb dL_refuses_581 (lv_at hl 7 rfl) ?_
  refine lv_bipush (v := nI 99) C.hx C.hb dL_refuses_583 (by decide +kernel) ?_
  refine lv_iconst (v := nI 0) C.hx C.hb dL_refuses_585 (by decide +kernel) ?_
  refine q_cR (w := 3) (p0 := nI 0) (p1 := -2147483648) (p2 := nI 99) (p3 := nI 0) (r := -7000001) (c2 := 196) (s2 := 1176) C hs hP hD hS (rj_ahead C.htr (notr (by decide +kernel) (by omega))) hl rfl (Nat.le_of_ble_eq_true rfl) ⟨Nat.le_of_ble_eq_true rfl, Nat.le_of_ble_eq_true rfl⟩ ⟨Nat.le_of_ble_eq_true rfl, Nat.le_of_ble_eq_true rfl⟩ ⟨Nat.le_of_ble_eq_true rfl, Nat.le_of_ble_eq_true rfl⟩ dL_refuses_586 (fun g z H locs hs hP hD hS => ?_)
  refine lv_ldc (v := -7000001) C.hx C.hb C.hown (C.hT.use kk_L_90 args) dL_refuses_589 ?_
  refine lv_icmp_ne (tgt := 634) C.hx C.hb dL_refuses_591 (by decide) (fun c9 => absurd c9 (by decide +kernel)) (fun _ => ?_)
  refine lv_aload_n C.hx C.hb dL_refuses_594 rfl (lv_at hl 13 rfl) ?_
  refine lv_iload C.hx C.hb dL_refuses_595 (lv_at hl 3 rfl) ?_
  refine lv_iload C.hx C.hb dL_refuses_597 (lv_at hl 7 rfl) ?_
  refine lv_iload C.hx C.hb dL_refuses_599 (lv_at hl 7 rfl) ?_
  refine lv_iconst (v := nI 0) C.hx C.hb dL_refuses_601 (by decide +kernel) ?_
  refine lv_iconst (v := nI 0) C.hx C.hb dL_refuses_602 (by decide +kernel) ?_
  refine q_cR (w := 3) (p0 := -2147483648) (p1 := -2147483648) (p2 := nI 0) (p3 := nI 0) (r := -7000001) (c2 := 197) (s2 := 1182) C hs hP hD hS (ri_ahead C.htr (notr (by decide +kernel) (by omega))) hl rfl (Nat.le_of_ble_eq_true rfl) ⟨Nat.le_of_ble_eq_true rfl, Nat.le_of_ble_eq_true rfl⟩ ⟨Nat.le_of_ble_eq_true rfl, Nat.le_of_ble_eq_true rfl⟩ ⟨Nat.le_of_ble_eq_true rfl, Nat.le_of_ble_eq_true rfl⟩ dL_refuses_603 (fun g z H locs hs hP hD hS => ?_)
  refine lv_ldc (v := -7000001) C.hx C.hb C.hown (C.hT.use kk_L_90 args) dL_refuses_606 ?_
  refine lv_icmp_ne (tgt := 634) C.hx C.hb dL_refuses_608 (by decide) (fun c9 => absurd c9 (by decide +kernel)) (fun _ => ?_)
  refine lv_iload_n C.hx C.hb dL_refuses_611 rfl (lv_at hl 14 rfl) ?_
  refine lv_if_eq (tgt := 630) C.hx C.hb dL_refuses_612 (by decide) (fun c9 => ?_) (fun c9 => ?_)
  · refine W.widen (k := 198) (n := 1188) (Nat.le_of_ble_eq_true rfl) (Nat.le_of_ble_eq_true rfl) ?_
    exact kk g z H locs ls hs hP hD hS hl
  · have ha0 : 0 < a := Nat.pos_of_ne_zero (fun q => c9 (by rw [q]; rfl))
    have hb0 : 0 < b := hab ha0
    refine lv_aload_n C.hx C.hb dL_refuses_615 rfl (lv_at hl 13 rfl) ?_
    refine lv_iload C.hx C.hb dL_refuses_616 (lv_at hl 3 rfl) ?_
    refine lv_iconst (v := nI 0) C.hx C.hb dL_refuses_618 (by decide +kernel) ?_
    refine lv_iconst (v := nI 0) C.hx C.hb dL_refuses_619 (by decide +kernel) ?_
    refine lv_iconst (v := nI 0) C.hx C.hb dL_refuses_620 (by decide +kernel) ?_
    refine lv_iconst (v := nI 0) C.hx C.hb dL_refuses_621 (by decide +kernel) ?_
    refine q_cR (w := 3) (p0 := nI 0) (p1 := nI 0) (p2 := nI 0) (p3 := nI 0) (r := -7000002) (c2 := 198) (s2 := 1188) C hs hP hD hS (rs_ahead C.htr (q_r_nI (by omega))) hl rfl (Nat.le_of_ble_eq_true rfl) ⟨Nat.le_of_ble_eq_true rfl, Nat.le_of_ble_eq_true rfl⟩ ⟨Nat.le_of_ble_eq_true rfl, Nat.le_of_ble_eq_true rfl⟩ ⟨Nat.le_of_ble_eq_true rfl, Nat.le_of_ble_eq_true rfl⟩ dL_refuses_622 (fun g z H locs hs hP hD hS => ?_)
    refine lv_ldc (v := -7000002) C.hx C.hb C.hown (C.hT.use kk_L_93 args) dL_refuses_625 ?_
    refine lv_icmp_ne (tgt := 634) C.hx C.hb dL_refuses_627 (by decide) (fun c9 => absurd c9 (by decide +kernel)) (fun _ => ?_)
    exact kk g z H locs ls hs hP hD hS hl

set_option maxRecDepth 100000 in
set_option maxHeartbeats 4000000 in
theorem tf_86 {p : Program} {l : Launch} {e : Env} {s : State} {m : MethodId} {args : Array Value} {below : List Frame} {meth : Method} {c : Code} {D : va_G} {cA : ClassId} {A : Nat → Prop} {ad : Nat → Nat} {Q : State → Prop} {g0 : Nat → Nat → Int32} {a t b : Nat} (ha : a ≤ 16) (hb9 : b ≤ 40) (hab : 0 < a → 0 < b) (C : lcx p l s m c cL_refuses 16 D cA A) (kk : ∀ (g : Nat → Nat → Int32) (z : Nat → Nat) (H : Heap) (locs : List Loc) (ls : Array Slot), SR g0 a t b g z → va_P D vwCl (rlW cA ad g z) H → va_D A (rlW cA ad g z) → va_S A s.heap H locs → lv_has ls 16 [(13, .int (nI 5)), (15, .int (nI 0)), (14, .int (nI 0)), (12, .int (nI 1)), (11, .int (-2147483648)), (10, .int (-2147483648)), (9, .int (-2147483648)), (8, .int (-2147483648)), (7, .int (-2147483648)), (6, .int (-2147483648)), (5, .int (nI 3)), (4, .int (nI (dfO g0 a a))), (3, .int (nI 2147483647)), (0, .ref (ad 70)), (1, .int (nI a)), (2, .int (nI b))] → W p l e rm_Lr s m args below meth c H locs 198 1188 Q (F0 m 471 ls [])) : ∀ (g : Nat → Nat → Int32) (z : Nat → Nat) (H : Heap) (locs : List Loc) (ls : Array Slot), SR g0 a t b g z → va_P D vwCl (rlW cA ad g z) H → va_D A (rlW cA ad g z) → va_S A s.heap H locs → lv_has ls 16 [(12, .int (nI 1)), (15, .int (nI 1)), (14, .int (nI 1)), (13, .int (nI 3)), (11, .int (-2147483648)), (10, .int (-2147483648)), (9, .int (-2147483648)), (8, .int (-2147483648)), (7, .int (-2147483648)), (6, .int (-2147483648)), (5, .int (nI 3)), (4, .int (nI (dfO g0 a a))), (3, .int (nI 2147483647)), (0, .ref (ad 70)), (1, .int (nI a)), (2, .int (nI b))] → W p l e rm_Lr s m args below meth c H locs 198 1188 Q (F0 m 630 ls []) := by
  intro g z H locs ls hs hP hD hS hl
  refine lv_iconst (v := nI 1) C.hx C.hb dL_refuses_630 (by decide +kernel) ?_
  refine lv_goto (tgt := 635) C.hx C.hb dL_refuses_631 (by decide) ?_
  refine lv_istore (lv' := [(12, .int (nI 1)), (15, .int (nI 1)), (14, .int (nI 1)), (13, .int (nI 3)), (11, .int (-2147483648)), (10, .int (-2147483648)), (9, .int (-2147483648)), (8, .int (-2147483648)), (7, .int (-2147483648)), (6, .int (-2147483648)), (5, .int (nI 3)), (4, .int (nI (dfO g0 a a))), (3, .int (nI 2147483647)), (0, .ref (ad 70)), (1, .int (nI a)), (2, .int (nI b))]) C.hx C.hb dL_refuses_635 hl (by decide) rfl (fun ls hl => ?_)
  refine lv_iload C.hx C.hb dL_refuses_637 (lv_at hl 3 rfl) ?_
  refine lv_bipush (v := nI 15) C.hx C.hb dL_refuses_639 (by decide +kernel) ?_
  refine lv_icmp_eq (tgt := 658) C.hx C.hb dL_refuses_641 (by decide) (fun c9 => absurd c9 (by decide +kernel)) (fun _ => ?_)
  refine lv_iload C.hx C.hb dL_refuses_644 (lv_at hl 3 rfl) ?_
  refine lv_bipush (v := nI 16) C.hx C.hb dL_refuses_646 (by decide +kernel) ?_
  refine lv_icmp_eq (tgt := 658) C.hx C.hb dL_refuses_648 (by decide) (fun c9 => absurd c9 (by decide +kernel)) (fun _ => ?_)
  refine lv_iload C.hx C.hb dL_refuses_651 (lv_at hl 3 rfl) ?_
  refine lv_bipush (v := nI 18) C.hx C.hb dL_refuses_653 (by decide +kernel) ?_
  refine lv_icmp_ne (tgt := 681) C.hx C.hb dL_refuses_655 (by decide) (fun _ => ?_) (fun c9 => absurd c9 (by decide +kernel))
  refine lv_iinc (v := nI 4) (lv' := [(13, .int (nI 4)), (12, .int (nI 1)), (15, .int (nI 1)), (14, .int (nI 1)), (11, .int (-2147483648)), (10, .int (-2147483648)), (9, .int (-2147483648)), (8, .int (-2147483648)), (7, .int (-2147483648)), (6, .int (-2147483648)), (5, .int (nI 3)), (4, .int (nI (dfO g0 a a))), (3, .int (nI 2147483647)), (0, .ref (ad 70)), (1, .int (nI a)), (2, .int (nI b))]) C.hx C.hb dL_refuses_681 hl (k := 3) rfl (by decide +kernel) (by decide) rfl (fun ls hl => ?_)
  refine lv_goto (tgt := 459) C.hx C.hb dL_refuses_684 (by decide) ?_
  refine lv_iload C.hx C.hb dL_refuses_459 (lv_at hl 0 rfl) ?_
  refine lv_bipush (v := nI 20) C.hx C.hb dL_refuses_461 (by decide +kernel) ?_
  refine lv_icmp_ge (tgt := 687) C.hx C.hb dL_refuses_463 (by decide) (fun c9 => absurd c9 (by decide +kernel)) (fun _ => ?_)
  refine lv_iload C.hx C.hb dL_refuses_466 (lv_at hl 1 rfl) ?_
  refine lv_if_eq (tgt := 687) C.hx C.hb dL_refuses_468 (by decide) (fun c9 => absurd c9 (by decide +kernel)) (fun _ => ?_)
  refine lv_iload C.hx C.hb dL_refuses_471 (lv_at hl 0 rfl) ?_
  refine lv_iconst (v := nI 4) C.hx C.hb dL_refuses_473 (by decide +kernel) ?_
  refine lv_icmp_lt (tgt := 497) C.hx C.hb dL_refuses_474 (by decide) (fun c9 => absurd c9 (by decide +kernel)) (fun _ => ?_)
  refine lv_iload C.hx C.hb dL_refuses_477 (lv_at hl 0 rfl) ?_
  refine lv_iconst (v := nI 5) C.hx C.hb dL_refuses_479 (by decide +kernel) ?_
  refine lv_icmp_le (tgt := 490) C.hx C.hb dL_refuses_480 (by decide) (fun _ => ?_) (fun c9 => absurd c9 (by decide +kernel))
  refine lv_iload C.hx C.hb dL_refuses_490 (lv_at hl 0 rfl) ?_
  refine lv_bipush (v := nI 19) C.hx C.hb dL_refuses_492 (by decide +kernel) ?_
  refine lv_icmp_ne (tgt := 501) C.hx C.hb dL_refuses_494 (by decide) (fun _ => ?_) (fun c9 => absurd c9 (by decide +kernel))
  refine lv_iconst (v := nI 0) C.hx C.hb dL_refuses_501 (by decide +kernel) ?_
  refine lv_istore (lv' := [(14, .int (nI 0)), (13, .int (nI 4)), (12, .int (nI 1)), (15, .int (nI 1)), (11, .int (-2147483648)), (10, .int (-2147483648)), (9, .int (-2147483648)), (8, .int (-2147483648)), (7, .int (-2147483648)), (6, .int (-2147483648)), (5, .int (nI 3)), (4, .int (nI (dfO g0 a a))), (3, .int (nI 2147483647)), (0, .ref (ad 70)), (1, .int (nI a)), (2, .int (nI b))]) C.hx C.hb dL_refuses_502 hl (by decide) rfl (fun ls hl => ?_)
  refine lv_iload C.hx C.hb dL_refuses_504 (lv_at hl 1 rfl) ?_
  refine lv_iconst (v := nI 3) C.hx C.hb dL_refuses_506 (by decide +kernel) ?_
  refine lv_icmp_eq (tgt := 531) C.hx C.hb dL_refuses_507 (by decide) (fun c9 => absurd c9 (by decide +kernel)) (fun _ => ?_)
  refine lv_iload C.hx C.hb dL_refuses_510 (lv_at hl 1 rfl) ?_
  refine lv_bipush (v := nI 7) C.hx C.hb dL_refuses_512 (by decide +kernel) ?_
  refine lv_icmp_le (tgt := 524) C.hx C.hb dL_refuses_514 (by decide) (fun _ => ?_) (fun c9 => absurd c9 (by decide +kernel))
  refine lv_iload C.hx C.hb dL_refuses_524 (lv_at hl 1 rfl) ?_
  refine lv_bipush (v := nI 19) C.hx C.hb dL_refuses_526 (by decide +kernel) ?_
  refine lv_icmp_ne (tgt := 535) C.hx C.hb dL_refuses_528 (by decide) (fun _ => ?_) (fun c9 => absurd c9 (by decide +kernel))
  refine lv_iconst (v := nI 0) C.hx C.hb dL_refuses_535 (by decide +kernel) ?_
  refine lv_istore (lv' := [(15, .int (nI 0)), (14, .int (nI 0)), (13, .int (nI 4)), (12, .int (nI 1)), (11, .int (-2147483648)), (10, .int (-2147483648)), (9, .int (-2147483648)), (8, .int (-2147483648)), (7, .int (-2147483648)), (6, .int (-2147483648)), (5, .int (nI 3)), (4, .int (nI (dfO g0 a a))), (3, .int (nI 2147483647)), (0, .ref (ad 70)), (1, .int (nI a)), (2, .int (nI b))]) C.hx C.hb dL_refuses_536 hl (by decide) rfl (fun ls hl => ?_)
  refine lv_iload C.hx C.hb dL_refuses_538 (lv_at hl 1 rfl) ?_
  refine lv_if_eq (tgt := 567) C.hx C.hb dL_refuses_540 (by decide) (fun _ => ?_) (fun c9 => absurd c9 (by decide +kernel))
  refine lv_iload C.hx C.hb dL_refuses_567 (lv_at hl 0 rfl) ?_
  refine lv_if_eq (tgt := 637) C.hx C.hb dL_refuses_569 (by decide) (fun _ => ?_) (fun c9 => absurd c9 (by decide +kernel))
  refine lv_iload C.hx C.hb dL_refuses_637 (lv_at hl 2 rfl) ?_
  refine lv_bipush (v := nI 15) C.hx C.hb dL_refuses_639 (by decide +kernel) ?_
  refine lv_icmp_eq (tgt := 658) C.hx C.hb dL_refuses_641 (by decide) (fun c9 => absurd c9 (by decide +kernel)) (fun _ => ?_)
  refine lv_iload C.hx C.hb dL_refuses_644 (lv_at hl 2 rfl) ?_
  refine lv_bipush (v := nI 16) C.hx C.hb dL_refuses_646 (by decide +kernel) ?_
  refine lv_icmp_eq (tgt := 658) C.hx C.hb dL_refuses_648 (by decide) (fun c9 => absurd c9 (by decide +kernel)) (fun _ => ?_)
  refine lv_iload C.hx C.hb dL_refuses_651 (lv_at hl 2 rfl) ?_
  refine lv_bipush (v := nI 18) C.hx C.hb dL_refuses_653 (by decide +kernel) ?_
  refine lv_icmp_ne (tgt := 681) C.hx C.hb dL_refuses_655 (by decide) (fun _ => ?_) (fun c9 => absurd c9 (by decide +kernel))
  refine lv_iinc (v := nI 5) (lv' := [(13, .int (nI 5)), (15, .int (nI 0)), (14, .int (nI 0)), (12, .int (nI 1)), (11, .int (-2147483648)), (10, .int (-2147483648)), (9, .int (-2147483648)), (8, .int (-2147483648)), (7, .int (-2147483648)), (6, .int (-2147483648)), (5, .int (nI 3)), (4, .int (nI (dfO g0 a a))), (3, .int (nI 2147483647)), (0, .ref (ad 70)), (1, .int (nI a)), (2, .int (nI b))]) C.hx C.hb dL_refuses_681 hl (k := 2) rfl (by decide +kernel) (by decide) rfl (fun ls hl => ?_)
  refine lv_goto (tgt := 459) C.hx C.hb dL_refuses_684 (by decide) ?_
  refine lv_iload C.hx C.hb dL_refuses_459 (lv_at hl 0 rfl) ?_
  refine lv_bipush (v := nI 20) C.hx C.hb dL_refuses_461 (by decide +kernel) ?_
  refine lv_icmp_ge (tgt := 687) C.hx C.hb dL_refuses_463 (by decide) (fun c9 => absurd c9 (by decide +kernel)) (fun _ => ?_)
  refine lv_iload C.hx C.hb dL_refuses_466 (lv_at hl 3 rfl) ?_
  refine lv_if_eq (tgt := 687) C.hx C.hb dL_refuses_468 (by decide) (fun c9 => absurd c9 (by decide +kernel)) (fun _ => ?_)
  exact kk g z H locs ls hs hP hD hS hl

set_option maxRecDepth 100000 in
set_option maxHeartbeats 4000000 in
theorem tf_87 {p : Program} {l : Launch} {e : Env} {s : State} {m : MethodId} {args : Array Value} {below : List Frame} {meth : Method} {c : Code} {D : va_G} {cA : ClassId} {A : Nat → Prop} {ad : Nat → Nat} {Q : State → Prop} {g0 : Nat → Nat → Int32} {a t b : Nat} (ha : a ≤ 16) (hb9 : b ≤ 40) (hab : 0 < a → 0 < b) (C : lcx p l s m c cL_refuses 16 D cA A) (kk : ∀ (g : Nat → Nat → Int32) (z : Nat → Nat) (H : Heap) (locs : List Loc) (ls : Array Slot), SR g0 a t b g z → va_P D vwCl (rlW cA ad g z) H → va_D A (rlW cA ad g z) → va_S A s.heap H locs → lv_has ls 16 [(14, .int (nI 1)), (13, .int (nI 6)), (15, .int (nI 0)), (12, .int (nI 1)), (11, .int (-2147483648)), (10, .int (-2147483648)), (9, .int (-2147483648)), (8, .int (-2147483648)), (7, .int (-2147483648)), (6, .int (-2147483648)), (5, .int (nI 3)), (4, .int (nI (dfO g0 a a))), (3, .int (nI 2147483647)), (0, .ref (ad 70)), (1, .int (nI a)), (2, .int (nI b))] → W p l e rm_Lr s m args below meth c H locs 198 1188 Q (F0 m 535 ls [])) : ∀ (g : Nat → Nat → Int32) (z : Nat → Nat) (H : Heap) (locs : List Loc) (ls : Array Slot), SR g0 a t b g z → va_P D vwCl (rlW cA ad g z) H → va_D A (rlW cA ad g z) → va_S A s.heap H locs → lv_has ls 16 [(13, .int (nI 5)), (15, .int (nI 0)), (14, .int (nI 0)), (12, .int (nI 1)), (11, .int (-2147483648)), (10, .int (-2147483648)), (9, .int (-2147483648)), (8, .int (-2147483648)), (7, .int (-2147483648)), (6, .int (-2147483648)), (5, .int (nI 3)), (4, .int (nI (dfO g0 a a))), (3, .int (nI 2147483647)), (0, .ref (ad 70)), (1, .int (nI a)), (2, .int (nI b))] → W p l e rm_Lr s m args below meth c H locs 198 1188 Q (F0 m 471 ls []) := by
  intro g z H locs ls hs hP hD hS hl
  refine lv_iload C.hx C.hb dL_refuses_471 (lv_at hl 0 rfl) ?_
  refine lv_iconst (v := nI 4) C.hx C.hb dL_refuses_473 (by decide +kernel) ?_
  refine lv_icmp_lt (tgt := 497) C.hx C.hb dL_refuses_474 (by decide) (fun c9 => absurd c9 (by decide +kernel)) (fun _ => ?_)
  refine lv_iload C.hx C.hb dL_refuses_477 (lv_at hl 0 rfl) ?_
  refine lv_iconst (v := nI 5) C.hx C.hb dL_refuses_479 (by decide +kernel) ?_
  refine lv_icmp_le (tgt := 490) C.hx C.hb dL_refuses_480 (by decide) (fun _ => ?_) (fun c9 => absurd c9 (by decide +kernel))
  refine lv_iload C.hx C.hb dL_refuses_490 (lv_at hl 0 rfl) ?_
  refine lv_bipush (v := nI 19) C.hx C.hb dL_refuses_492 (by decide +kernel) ?_
  refine lv_icmp_ne (tgt := 501) C.hx C.hb dL_refuses_494 (by decide) (fun _ => ?_) (fun c9 => absurd c9 (by decide +kernel))
  refine lv_iconst (v := nI 0) C.hx C.hb dL_refuses_501 (by decide +kernel) ?_
  refine lv_istore (lv' := [(14, .int (nI 0)), (13, .int (nI 5)), (15, .int (nI 0)), (12, .int (nI 1)), (11, .int (-2147483648)), (10, .int (-2147483648)), (9, .int (-2147483648)), (8, .int (-2147483648)), (7, .int (-2147483648)), (6, .int (-2147483648)), (5, .int (nI 3)), (4, .int (nI (dfO g0 a a))), (3, .int (nI 2147483647)), (0, .ref (ad 70)), (1, .int (nI a)), (2, .int (nI b))]) C.hx C.hb dL_refuses_502 hl (by decide) rfl (fun ls hl => ?_)
  refine lv_iload C.hx C.hb dL_refuses_504 (lv_at hl 1 rfl) ?_
  refine lv_iconst (v := nI 3) C.hx C.hb dL_refuses_506 (by decide +kernel) ?_
  refine lv_icmp_eq (tgt := 531) C.hx C.hb dL_refuses_507 (by decide) (fun c9 => absurd c9 (by decide +kernel)) (fun _ => ?_)
  refine lv_iload C.hx C.hb dL_refuses_510 (lv_at hl 1 rfl) ?_
  refine lv_bipush (v := nI 7) C.hx C.hb dL_refuses_512 (by decide +kernel) ?_
  refine lv_icmp_le (tgt := 524) C.hx C.hb dL_refuses_514 (by decide) (fun _ => ?_) (fun c9 => absurd c9 (by decide +kernel))
  refine lv_iload C.hx C.hb dL_refuses_524 (lv_at hl 1 rfl) ?_
  refine lv_bipush (v := nI 19) C.hx C.hb dL_refuses_526 (by decide +kernel) ?_
  refine lv_icmp_ne (tgt := 535) C.hx C.hb dL_refuses_528 (by decide) (fun _ => ?_) (fun c9 => absurd c9 (by decide +kernel))
  refine lv_iconst (v := nI 0) C.hx C.hb dL_refuses_535 (by decide +kernel) ?_
  refine lv_istore (lv' := [(15, .int (nI 0)), (14, .int (nI 0)), (13, .int (nI 5)), (12, .int (nI 1)), (11, .int (-2147483648)), (10, .int (-2147483648)), (9, .int (-2147483648)), (8, .int (-2147483648)), (7, .int (-2147483648)), (6, .int (-2147483648)), (5, .int (nI 3)), (4, .int (nI (dfO g0 a a))), (3, .int (nI 2147483647)), (0, .ref (ad 70)), (1, .int (nI a)), (2, .int (nI b))]) C.hx C.hb dL_refuses_536 hl (by decide) rfl (fun ls hl => ?_)
  refine lv_iload C.hx C.hb dL_refuses_538 (lv_at hl 1 rfl) ?_
  refine lv_if_eq (tgt := 567) C.hx C.hb dL_refuses_540 (by decide) (fun _ => ?_) (fun c9 => absurd c9 (by decide +kernel))
  refine lv_iload C.hx C.hb dL_refuses_567 (lv_at hl 0 rfl) ?_
  refine lv_if_eq (tgt := 637) C.hx C.hb dL_refuses_569 (by decide) (fun _ => ?_) (fun c9 => absurd c9 (by decide +kernel))
  refine lv_iload C.hx C.hb dL_refuses_637 (lv_at hl 2 rfl) ?_
  refine lv_bipush (v := nI 15) C.hx C.hb dL_refuses_639 (by decide +kernel) ?_
  refine lv_icmp_eq (tgt := 658) C.hx C.hb dL_refuses_641 (by decide) (fun c9 => absurd c9 (by decide +kernel)) (fun _ => ?_)
  refine lv_iload C.hx C.hb dL_refuses_644 (lv_at hl 2 rfl) ?_
  refine lv_bipush (v := nI 16) C.hx C.hb dL_refuses_646 (by decide +kernel) ?_
  refine lv_icmp_eq (tgt := 658) C.hx C.hb dL_refuses_648 (by decide) (fun c9 => absurd c9 (by decide +kernel)) (fun _ => ?_)
  refine lv_iload C.hx C.hb dL_refuses_651 (lv_at hl 2 rfl) ?_
  refine lv_bipush (v := nI 18) C.hx C.hb dL_refuses_653 (by decide +kernel) ?_
  refine lv_icmp_ne (tgt := 681) C.hx C.hb dL_refuses_655 (by decide) (fun _ => ?_) (fun c9 => absurd c9 (by decide +kernel))
  refine lv_iinc (v := nI 6) (lv' := [(13, .int (nI 6)), (15, .int (nI 0)), (14, .int (nI 0)), (12, .int (nI 1)), (11, .int (-2147483648)), (10, .int (-2147483648)), (9, .int (-2147483648)), (8, .int (-2147483648)), (7, .int (-2147483648)), (6, .int (-2147483648)), (5, .int (nI 3)), (4, .int (nI (dfO g0 a a))), (3, .int (nI 2147483647)), (0, .ref (ad 70)), (1, .int (nI a)), (2, .int (nI b))]) C.hx C.hb dL_refuses_681 hl (k := 2) rfl (by decide +kernel) (by decide) rfl (fun ls hl => ?_)
  refine lv_goto (tgt := 459) C.hx C.hb dL_refuses_684 (by decide) ?_
  refine lv_iload C.hx C.hb dL_refuses_459 (lv_at hl 0 rfl) ?_
  refine lv_bipush (v := nI 20) C.hx C.hb dL_refuses_461 (by decide +kernel) ?_
  refine lv_icmp_ge (tgt := 687) C.hx C.hb dL_refuses_463 (by decide) (fun c9 => absurd c9 (by decide +kernel)) (fun _ => ?_)
  refine lv_iload C.hx C.hb dL_refuses_466 (lv_at hl 3 rfl) ?_
  refine lv_if_eq (tgt := 687) C.hx C.hb dL_refuses_468 (by decide) (fun c9 => absurd c9 (by decide +kernel)) (fun _ => ?_)
  refine lv_iload C.hx C.hb dL_refuses_471 (lv_at hl 0 rfl) ?_
  refine lv_iconst (v := nI 4) C.hx C.hb dL_refuses_473 (by decide +kernel) ?_
  refine lv_icmp_lt (tgt := 497) C.hx C.hb dL_refuses_474 (by decide) (fun c9 => absurd c9 (by decide +kernel)) (fun _ => ?_)
  refine lv_iload C.hx C.hb dL_refuses_477 (lv_at hl 0 rfl) ?_
  refine lv_iconst (v := nI 5) C.hx C.hb dL_refuses_479 (by decide +kernel) ?_
  refine lv_icmp_le (tgt := 490) C.hx C.hb dL_refuses_480 (by decide) (fun c9 => absurd c9 (by decide +kernel)) (fun _ => ?_)
  refine lv_iload C.hx C.hb dL_refuses_483 (lv_at hl 0 rfl) ?_
  refine lv_bipush (v := nI 15) C.hx C.hb dL_refuses_485 (by decide +kernel) ?_
  refine lv_icmp_lt (tgt := 497) C.hx C.hb dL_refuses_487 (by decide) (fun _ => ?_) (fun c9 => absurd c9 (by decide +kernel))
  refine lv_iconst (v := nI 1) C.hx C.hb dL_refuses_497 (by decide +kernel) ?_
  refine lv_goto (tgt := 502) C.hx C.hb dL_refuses_498 (by decide) ?_
  refine lv_istore (lv' := [(14, .int (nI 1)), (13, .int (nI 6)), (15, .int (nI 0)), (12, .int (nI 1)), (11, .int (-2147483648)), (10, .int (-2147483648)), (9, .int (-2147483648)), (8, .int (-2147483648)), (7, .int (-2147483648)), (6, .int (-2147483648)), (5, .int (nI 3)), (4, .int (nI (dfO g0 a a))), (3, .int (nI 2147483647)), (0, .ref (ad 70)), (1, .int (nI a)), (2, .int (nI b))]) C.hx C.hb dL_refuses_502 hl (by decide) rfl (fun ls hl => ?_)
  refine lv_iload C.hx C.hb dL_refuses_504 (lv_at hl 1 rfl) ?_
  refine lv_iconst (v := nI 3) C.hx C.hb dL_refuses_506 (by decide +kernel) ?_
  refine lv_icmp_eq (tgt := 531) C.hx C.hb dL_refuses_507 (by decide) (fun c9 => absurd c9 (by decide +kernel)) (fun _ => ?_)
  refine lv_iload C.hx C.hb dL_refuses_510 (lv_at hl 1 rfl) ?_
  refine lv_bipush (v := nI 7) C.hx C.hb dL_refuses_512 (by decide +kernel) ?_
  refine lv_icmp_le (tgt := 524) C.hx C.hb dL_refuses_514 (by decide) (fun _ => ?_) (fun c9 => absurd c9 (by decide +kernel))
  refine lv_iload C.hx C.hb dL_refuses_524 (lv_at hl 1 rfl) ?_
  refine lv_bipush (v := nI 19) C.hx C.hb dL_refuses_526 (by decide +kernel) ?_
  refine lv_icmp_ne (tgt := 535) C.hx C.hb dL_refuses_528 (by decide) (fun _ => ?_) (fun c9 => absurd c9 (by decide +kernel))
  exact kk g z H locs ls hs hP hD hS hl

set_option maxRecDepth 100000 in
set_option maxHeartbeats 4000000 in
theorem tf_88 {p : Program} {l : Launch} {e : Env} {s : State} {m : MethodId} {args : Array Value} {below : List Frame} {meth : Method} {c : Code} {D : va_G} {cA : ClassId} {A : Nat → Prop} {ad : Nat → Nat} {Q : State → Prop} {g0 : Nat → Nat → Int32} {a t b : Nat} (ha : a ≤ 16) (hb9 : b ≤ 40) (hab : 0 < a → 0 < b) (C : lcx p l s m c cL_refuses 16 D cA A) (kk : ∀ (g : Nat → Nat → Int32) (z : Nat → Nat) (H : Heap) (locs : List Loc) (ls : Array Slot), SR g0 a t b g z → va_P D vwCl (rlW cA ad g z) H → va_D A (rlW cA ad g z) → va_S A s.heap H locs → lv_has ls 16 [(15, .int (nI 0)), (14, .int (nI 1)), (13, .int (nI 7)), (12, .int (nI 1)), (11, .int (-2147483648)), (10, .int (-2147483648)), (9, .int (-2147483648)), (8, .int (-2147483648)), (7, .int (-2147483648)), (6, .int (-2147483648)), (5, .int (nI 3)), (4, .int (nI (dfO g0 a a))), (3, .int (nI 2147483647)), (0, .ref (ad 70)), (1, .int (nI a)), (2, .int (nI b))] → W p l e rm_Lr s m args below meth c H locs 200 1200 Q (F0 m 560 ls [])) : ∀ (g : Nat → Nat → Int32) (z : Nat → Nat) (H : Heap) (locs : List Loc) (ls : Array Slot), SR g0 a t b g z → va_P D vwCl (rlW cA ad g z) H → va_D A (rlW cA ad g z) → va_S A s.heap H locs → lv_has ls 16 [(14, .int (nI 1)), (13, .int (nI 6)), (15, .int (nI 0)), (12, .int (nI 1)), (11, .int (-2147483648)), (10, .int (-2147483648)), (9, .int (-2147483648)), (8, .int (-2147483648)), (7, .int (-2147483648)), (6, .int (-2147483648)), (5, .int (nI 3)), (4, .int (nI (dfO g0 a a))), (3, .int (nI 2147483647)), (0, .ref (ad 70)), (1, .int (nI a)), (2, .int (nI b))] → W p l e rm_Lr s m args below meth c H locs 198 1188 Q (F0 m 535 ls []) := by
  intro g z H locs ls hs hP hD hS hl
  refine lv_iconst (v := nI 0) C.hx C.hb dL_refuses_535 (by decide +kernel) ?_
  refine lv_istore (lv' := [(15, .int (nI 0)), (14, .int (nI 1)), (13, .int (nI 6)), (12, .int (nI 1)), (11, .int (-2147483648)), (10, .int (-2147483648)), (9, .int (-2147483648)), (8, .int (-2147483648)), (7, .int (-2147483648)), (6, .int (-2147483648)), (5, .int (nI 3)), (4, .int (nI (dfO g0 a a))), (3, .int (nI 2147483647)), (0, .ref (ad 70)), (1, .int (nI a)), (2, .int (nI b))]) C.hx C.hb dL_refuses_536 hl (by decide) rfl (fun ls hl => ?_)
  refine lv_iload C.hx C.hb dL_refuses_538 (lv_at hl 1 rfl) ?_
  refine lv_if_eq (tgt := 567) C.hx C.hb dL_refuses_540 (by decide) (fun c9 => absurd c9 (by decide +kernel)) (fun _ => ?_)
  refine lv_aload_n C.hx C.hb dL_refuses_543 rfl (lv_at hl 13 rfl) ?_
  refine lv_iload C.hx C.hb dL_refuses_544 (lv_at hl 2 rfl) ?_
  refine lv_iload C.hx C.hb dL_refuses_546 (lv_at hl 7 rfl) ?_
  refine lv_iconst (v := nI 0) C.hx C.hb dL_refuses_548 (by decide +kernel) ?_
  refine lv_bipush (v := nI 99) C.hx C.hb dL_refuses_549 (by decide +kernel) ?_
  refine lv_iconst (v := nI 0) C.hx C.hb dL_refuses_551 (by decide +kernel) ?_
  refine q_cR (w := 6) (p0 := -2147483648) (p1 := nI 0) (p2 := nI 99) (p3 := nI 0) (r := -7000001) (c2 := 199) (s2 := 1194) C hs hP hD hS (ri_year C.htr (notr (by decide +kernel) (by omega))) hl rfl (Nat.le_of_ble_eq_true rfl) ⟨Nat.le_of_ble_eq_true rfl, Nat.le_of_ble_eq_true rfl⟩ ⟨Nat.le_of_ble_eq_true rfl, Nat.le_of_ble_eq_true rfl⟩ ⟨Nat.le_of_ble_eq_true rfl, Nat.le_of_ble_eq_true rfl⟩ dL_refuses_552 (fun g z H locs hs hP hD hS => ?_)
  refine lv_ldc (v := -7000001) C.hx C.hb C.hown (C.hT.use kk_L_90 args) dL_refuses_555 ?_
  refine lv_icmp_ne (tgt := 564) C.hx C.hb dL_refuses_557 (by decide) (fun c9 => absurd c9 (by decide +kernel)) (fun _ => ?_)
  refine lv_iconst (v := nI 1) C.hx C.hb dL_refuses_560 (by decide +kernel) ?_
  refine lv_goto (tgt := 565) C.hx C.hb dL_refuses_561 (by decide) ?_
  refine lv_istore (lv' := [(12, .int (nI 1)), (15, .int (nI 0)), (14, .int (nI 1)), (13, .int (nI 6)), (11, .int (-2147483648)), (10, .int (-2147483648)), (9, .int (-2147483648)), (8, .int (-2147483648)), (7, .int (-2147483648)), (6, .int (-2147483648)), (5, .int (nI 3)), (4, .int (nI (dfO g0 a a))), (3, .int (nI 2147483647)), (0, .ref (ad 70)), (1, .int (nI a)), (2, .int (nI b))]) C.hx C.hb dL_refuses_565 hl (by decide) rfl (fun ls hl => ?_)
  refine lv_iload C.hx C.hb dL_refuses_567 (lv_at hl 1 rfl) ?_
  refine lv_if_eq (tgt := 637) C.hx C.hb dL_refuses_569 (by decide) (fun _ => ?_) (fun c9 => absurd c9 (by decide +kernel))
  refine lv_iload C.hx C.hb dL_refuses_637 (lv_at hl 3 rfl) ?_
  refine lv_bipush (v := nI 15) C.hx C.hb dL_refuses_639 (by decide +kernel) ?_
  refine lv_icmp_eq (tgt := 658) C.hx C.hb dL_refuses_641 (by decide) (fun c9 => absurd c9 (by decide +kernel)) (fun _ => ?_)
  refine lv_iload C.hx C.hb dL_refuses_644 (lv_at hl 3 rfl) ?_
  refine lv_bipush (v := nI 16) C.hx C.hb dL_refuses_646 (by decide +kernel) ?_
  refine lv_icmp_eq (tgt := 658) C.hx C.hb dL_refuses_648 (by decide) (fun c9 => absurd c9 (by decide +kernel)) (fun _ => ?_)
  refine lv_iload C.hx C.hb dL_refuses_651 (lv_at hl 3 rfl) ?_
  refine lv_bipush (v := nI 18) C.hx C.hb dL_refuses_653 (by decide +kernel) ?_
  refine lv_icmp_ne (tgt := 681) C.hx C.hb dL_refuses_655 (by decide) (fun _ => ?_) (fun c9 => absurd c9 (by decide +kernel))
  refine lv_iinc (v := nI 7) (lv' := [(13, .int (nI 7)), (12, .int (nI 1)), (15, .int (nI 0)), (14, .int (nI 1)), (11, .int (-2147483648)), (10, .int (-2147483648)), (9, .int (-2147483648)), (8, .int (-2147483648)), (7, .int (-2147483648)), (6, .int (-2147483648)), (5, .int (nI 3)), (4, .int (nI (dfO g0 a a))), (3, .int (nI 2147483647)), (0, .ref (ad 70)), (1, .int (nI a)), (2, .int (nI b))]) C.hx C.hb dL_refuses_681 hl (k := 3) rfl (by decide +kernel) (by decide) rfl (fun ls hl => ?_)
  refine lv_goto (tgt := 459) C.hx C.hb dL_refuses_684 (by decide) ?_
  refine lv_iload C.hx C.hb dL_refuses_459 (lv_at hl 0 rfl) ?_
  refine lv_bipush (v := nI 20) C.hx C.hb dL_refuses_461 (by decide +kernel) ?_
  refine lv_icmp_ge (tgt := 687) C.hx C.hb dL_refuses_463 (by decide) (fun c9 => absurd c9 (by decide +kernel)) (fun _ => ?_)
  refine lv_iload C.hx C.hb dL_refuses_466 (lv_at hl 1 rfl) ?_
  refine lv_if_eq (tgt := 687) C.hx C.hb dL_refuses_468 (by decide) (fun c9 => absurd c9 (by decide +kernel)) (fun _ => ?_)
  refine lv_iload C.hx C.hb dL_refuses_471 (lv_at hl 0 rfl) ?_
  refine lv_iconst (v := nI 4) C.hx C.hb dL_refuses_473 (by decide +kernel) ?_
  refine lv_icmp_lt (tgt := 497) C.hx C.hb dL_refuses_474 (by decide) (fun c9 => absurd c9 (by decide +kernel)) (fun _ => ?_)
  refine lv_iload C.hx C.hb dL_refuses_477 (lv_at hl 0 rfl) ?_
  refine lv_iconst (v := nI 5) C.hx C.hb dL_refuses_479 (by decide +kernel) ?_
  refine lv_icmp_le (tgt := 490) C.hx C.hb dL_refuses_480 (by decide) (fun c9 => absurd c9 (by decide +kernel)) (fun _ => ?_)
  refine lv_iload C.hx C.hb dL_refuses_483 (lv_at hl 0 rfl) ?_
  refine lv_bipush (v := nI 15) C.hx C.hb dL_refuses_485 (by decide +kernel) ?_
  refine lv_icmp_lt (tgt := 497) C.hx C.hb dL_refuses_487 (by decide) (fun _ => ?_) (fun c9 => absurd c9 (by decide +kernel))
  refine lv_iconst (v := nI 1) C.hx C.hb dL_refuses_497 (by decide +kernel) ?_
  refine lv_goto (tgt := 502) C.hx C.hb dL_refuses_498 (by decide) ?_
  refine lv_istore (lv' := [(14, .int (nI 1)), (13, .int (nI 7)), (12, .int (nI 1)), (15, .int (nI 0)), (11, .int (-2147483648)), (10, .int (-2147483648)), (9, .int (-2147483648)), (8, .int (-2147483648)), (7, .int (-2147483648)), (6, .int (-2147483648)), (5, .int (nI 3)), (4, .int (nI (dfO g0 a a))), (3, .int (nI 2147483647)), (0, .ref (ad 70)), (1, .int (nI a)), (2, .int (nI b))]) C.hx C.hb dL_refuses_502 hl (by decide) rfl (fun ls hl => ?_)
  refine lv_iload C.hx C.hb dL_refuses_504 (lv_at hl 1 rfl) ?_
  refine lv_iconst (v := nI 3) C.hx C.hb dL_refuses_506 (by decide +kernel) ?_
  refine lv_icmp_eq (tgt := 531) C.hx C.hb dL_refuses_507 (by decide) (fun c9 => absurd c9 (by decide +kernel)) (fun _ => ?_)
  refine lv_iload C.hx C.hb dL_refuses_510 (lv_at hl 1 rfl) ?_
  refine lv_bipush (v := nI 7) C.hx C.hb dL_refuses_512 (by decide +kernel) ?_
  refine lv_icmp_le (tgt := 524) C.hx C.hb dL_refuses_514 (by decide) (fun _ => ?_) (fun c9 => absurd c9 (by decide +kernel))
  refine lv_iload C.hx C.hb dL_refuses_524 (lv_at hl 1 rfl) ?_
  refine lv_bipush (v := nI 19) C.hx C.hb dL_refuses_526 (by decide +kernel) ?_
  refine lv_icmp_ne (tgt := 535) C.hx C.hb dL_refuses_528 (by decide) (fun _ => ?_) (fun c9 => absurd c9 (by decide +kernel))
  refine lv_iconst (v := nI 0) C.hx C.hb dL_refuses_535 (by decide +kernel) ?_
  refine lv_istore (lv' := [(15, .int (nI 0)), (14, .int (nI 1)), (13, .int (nI 7)), (12, .int (nI 1)), (11, .int (-2147483648)), (10, .int (-2147483648)), (9, .int (-2147483648)), (8, .int (-2147483648)), (7, .int (-2147483648)), (6, .int (-2147483648)), (5, .int (nI 3)), (4, .int (nI (dfO g0 a a))), (3, .int (nI 2147483647)), (0, .ref (ad 70)), (1, .int (nI a)), (2, .int (nI b))]) C.hx C.hb dL_refuses_536 hl (by decide) rfl (fun ls hl => ?_)
  refine lv_iload C.hx C.hb dL_refuses_538 (lv_at hl 1 rfl) ?_
  refine lv_if_eq (tgt := 567) C.hx C.hb dL_refuses_540 (by decide) (fun c9 => absurd c9 (by decide +kernel)) (fun _ => ?_)
  refine lv_aload_n C.hx C.hb dL_refuses_543 rfl (lv_at hl 13 rfl) ?_
  refine lv_iload C.hx C.hb dL_refuses_544 (lv_at hl 2 rfl) ?_
  refine lv_iload C.hx C.hb dL_refuses_546 (lv_at hl 7 rfl) ?_
  refine lv_iconst (v := nI 0) C.hx C.hb dL_refuses_548 (by decide +kernel) ?_
  refine lv_bipush (v := nI 99) C.hx C.hb dL_refuses_549 (by decide +kernel) ?_
  refine lv_iconst (v := nI 0) C.hx C.hb dL_refuses_551 (by decide +kernel) ?_
  refine q_cR (w := 7) (p0 := -2147483648) (p1 := nI 0) (p2 := nI 99) (p3 := nI 0) (r := -7000001) (c2 := 200) (s2 := 1200) C hs hP hD hS (ri_yearAnew C.htr (notr (by decide +kernel) (by omega))) hl rfl (Nat.le_of_ble_eq_true rfl) ⟨Nat.le_of_ble_eq_true rfl, Nat.le_of_ble_eq_true rfl⟩ ⟨Nat.le_of_ble_eq_true rfl, Nat.le_of_ble_eq_true rfl⟩ ⟨Nat.le_of_ble_eq_true rfl, Nat.le_of_ble_eq_true rfl⟩ dL_refuses_552 (fun g z H locs hs hP hD hS => ?_)
  refine lv_ldc (v := -7000001) C.hx C.hb C.hown (C.hT.use kk_L_90 args) dL_refuses_555 ?_
  refine lv_icmp_ne (tgt := 564) C.hx C.hb dL_refuses_557 (by decide) (fun c9 => absurd c9 (by decide +kernel)) (fun _ => ?_)
  exact kk g z H locs ls hs hP hD hS hl

set_option maxRecDepth 100000 in
set_option maxHeartbeats 4000000 in
theorem tf_89 {p : Program} {l : Launch} {e : Env} {s : State} {m : MethodId} {args : Array Value} {below : List Frame} {meth : Method} {c : Code} {D : va_G} {cA : ClassId} {A : Nat → Prop} {ad : Nat → Nat} {Q : State → Prop} {g0 : Nat → Nat → Int32} {a t b : Nat} (ha : a ≤ 16) (hb9 : b ≤ 40) (hab : 0 < a → 0 < b) (C : lcx p l s m c cL_refuses 16 D cA A) (kk : ∀ (g : Nat → Nat → Int32) (z : Nat → Nat) (H : Heap) (locs : List Loc) (ls : Array Slot), SR g0 a t b g z → va_P D vwCl (rlW cA ad g z) H → va_D A (rlW cA ad g z) → va_S A s.heap H locs → lv_has ls 16 [(12, .int (nI 1)), (15, .int (nI 1)), (14, .int (nI 1)), (13, .int (nI 8)), (11, .int (-2147483648)), (10, .int (-2147483648)), (9, .int (-2147483648)), (8, .int (-2147483648)), (7, .int (-2147483648)), (6, .int (-2147483648)), (5, .int (nI 3)), (4, .int (nI (dfO g0 a a))), (3, .int (nI 2147483647)), (0, .ref (ad 70)), (1, .int (nI a)), (2, .int (nI b))] → W p l e rm_Lr s m args below meth c H locs 201 1206 Q (F0 m 572 ls [])) : ∀ (g : Nat → Nat → Int32) (z : Nat → Nat) (H : Heap) (locs : List Loc) (ls : Array Slot), SR g0 a t b g z → va_P D vwCl (rlW cA ad g z) H → va_D A (rlW cA ad g z) → va_S A s.heap H locs → lv_has ls 16 [(15, .int (nI 0)), (14, .int (nI 1)), (13, .int (nI 7)), (12, .int (nI 1)), (11, .int (-2147483648)), (10, .int (-2147483648)), (9, .int (-2147483648)), (8, .int (-2147483648)), (7, .int (-2147483648)), (6, .int (-2147483648)), (5, .int (nI 3)), (4, .int (nI (dfO g0 a a))), (3, .int (nI 2147483647)), (0, .ref (ad 70)), (1, .int (nI a)), (2, .int (nI b))] → W p l e rm_Lr s m args below meth c H locs 200 1200 Q (F0 m 560 ls []) := by
  intro g z H locs ls hs hP hD hS hl
  refine lv_iconst (v := nI 1) C.hx C.hb dL_refuses_560 (by decide +kernel) ?_
  refine lv_goto (tgt := 565) C.hx C.hb dL_refuses_561 (by decide) ?_
  refine lv_istore (lv' := [(12, .int (nI 1)), (15, .int (nI 0)), (14, .int (nI 1)), (13, .int (nI 7)), (11, .int (-2147483648)), (10, .int (-2147483648)), (9, .int (-2147483648)), (8, .int (-2147483648)), (7, .int (-2147483648)), (6, .int (-2147483648)), (5, .int (nI 3)), (4, .int (nI (dfO g0 a a))), (3, .int (nI 2147483647)), (0, .ref (ad 70)), (1, .int (nI a)), (2, .int (nI b))]) C.hx C.hb dL_refuses_565 hl (by decide) rfl (fun ls hl => ?_)
  refine lv_iload C.hx C.hb dL_refuses_567 (lv_at hl 1 rfl) ?_
  refine lv_if_eq (tgt := 637) C.hx C.hb dL_refuses_569 (by decide) (fun _ => ?_) (fun c9 => absurd c9 (by decide +kernel))
  refine lv_iload C.hx C.hb dL_refuses_637 (lv_at hl 3 rfl) ?_
  refine lv_bipush (v := nI 15) C.hx C.hb dL_refuses_639 (by decide +kernel) ?_
  refine lv_icmp_eq (tgt := 658) C.hx C.hb dL_refuses_641 (by decide) (fun c9 => absurd c9 (by decide +kernel)) (fun _ => ?_)
  refine lv_iload C.hx C.hb dL_refuses_644 (lv_at hl 3 rfl) ?_
  refine lv_bipush (v := nI 16) C.hx C.hb dL_refuses_646 (by decide +kernel) ?_
  refine lv_icmp_eq (tgt := 658) C.hx C.hb dL_refuses_648 (by decide) (fun c9 => absurd c9 (by decide +kernel)) (fun _ => ?_)
  refine lv_iload C.hx C.hb dL_refuses_651 (lv_at hl 3 rfl) ?_
  refine lv_bipush (v := nI 18) C.hx C.hb dL_refuses_653 (by decide +kernel) ?_
  refine lv_icmp_ne (tgt := 681) C.hx C.hb dL_refuses_655 (by decide) (fun _ => ?_) (fun c9 => absurd c9 (by decide +kernel))
  refine lv_iinc (v := nI 8) (lv' := [(13, .int (nI 8)), (12, .int (nI 1)), (15, .int (nI 0)), (14, .int (nI 1)), (11, .int (-2147483648)), (10, .int (-2147483648)), (9, .int (-2147483648)), (8, .int (-2147483648)), (7, .int (-2147483648)), (6, .int (-2147483648)), (5, .int (nI 3)), (4, .int (nI (dfO g0 a a))), (3, .int (nI 2147483647)), (0, .ref (ad 70)), (1, .int (nI a)), (2, .int (nI b))]) C.hx C.hb dL_refuses_681 hl (k := 3) rfl (by decide +kernel) (by decide) rfl (fun ls hl => ?_)
  refine lv_goto (tgt := 459) C.hx C.hb dL_refuses_684 (by decide) ?_
  refine lv_iload C.hx C.hb dL_refuses_459 (lv_at hl 0 rfl) ?_
  refine lv_bipush (v := nI 20) C.hx C.hb dL_refuses_461 (by decide +kernel) ?_
  refine lv_icmp_ge (tgt := 687) C.hx C.hb dL_refuses_463 (by decide) (fun c9 => absurd c9 (by decide +kernel)) (fun _ => ?_)
  refine lv_iload C.hx C.hb dL_refuses_466 (lv_at hl 1 rfl) ?_
  refine lv_if_eq (tgt := 687) C.hx C.hb dL_refuses_468 (by decide) (fun c9 => absurd c9 (by decide +kernel)) (fun _ => ?_)
  refine lv_iload C.hx C.hb dL_refuses_471 (lv_at hl 0 rfl) ?_
  refine lv_iconst (v := nI 4) C.hx C.hb dL_refuses_473 (by decide +kernel) ?_
  refine lv_icmp_lt (tgt := 497) C.hx C.hb dL_refuses_474 (by decide) (fun c9 => absurd c9 (by decide +kernel)) (fun _ => ?_)
  refine lv_iload C.hx C.hb dL_refuses_477 (lv_at hl 0 rfl) ?_
  refine lv_iconst (v := nI 5) C.hx C.hb dL_refuses_479 (by decide +kernel) ?_
  refine lv_icmp_le (tgt := 490) C.hx C.hb dL_refuses_480 (by decide) (fun c9 => absurd c9 (by decide +kernel)) (fun _ => ?_)
  refine lv_iload C.hx C.hb dL_refuses_483 (lv_at hl 0 rfl) ?_
  refine lv_bipush (v := nI 15) C.hx C.hb dL_refuses_485 (by decide +kernel) ?_
  refine lv_icmp_lt (tgt := 497) C.hx C.hb dL_refuses_487 (by decide) (fun _ => ?_) (fun c9 => absurd c9 (by decide +kernel))
  refine lv_iconst (v := nI 1) C.hx C.hb dL_refuses_497 (by decide +kernel) ?_
  refine lv_goto (tgt := 502) C.hx C.hb dL_refuses_498 (by decide) ?_
  refine lv_istore (lv' := [(14, .int (nI 1)), (13, .int (nI 8)), (12, .int (nI 1)), (15, .int (nI 0)), (11, .int (-2147483648)), (10, .int (-2147483648)), (9, .int (-2147483648)), (8, .int (-2147483648)), (7, .int (-2147483648)), (6, .int (-2147483648)), (5, .int (nI 3)), (4, .int (nI (dfO g0 a a))), (3, .int (nI 2147483647)), (0, .ref (ad 70)), (1, .int (nI a)), (2, .int (nI b))]) C.hx C.hb dL_refuses_502 hl (by decide) rfl (fun ls hl => ?_)
  refine lv_iload C.hx C.hb dL_refuses_504 (lv_at hl 1 rfl) ?_
  refine lv_iconst (v := nI 3) C.hx C.hb dL_refuses_506 (by decide +kernel) ?_
  refine lv_icmp_eq (tgt := 531) C.hx C.hb dL_refuses_507 (by decide) (fun c9 => absurd c9 (by decide +kernel)) (fun _ => ?_)
  refine lv_iload C.hx C.hb dL_refuses_510 (lv_at hl 1 rfl) ?_
  refine lv_bipush (v := nI 7) C.hx C.hb dL_refuses_512 (by decide +kernel) ?_
  refine lv_icmp_le (tgt := 524) C.hx C.hb dL_refuses_514 (by decide) (fun c9 => absurd c9 (by decide +kernel)) (fun _ => ?_)
  refine lv_iload C.hx C.hb dL_refuses_517 (lv_at hl 1 rfl) ?_
  refine lv_bipush (v := nI 13) C.hx C.hb dL_refuses_519 (by decide +kernel) ?_
  refine lv_icmp_lt (tgt := 531) C.hx C.hb dL_refuses_521 (by decide) (fun _ => ?_) (fun c9 => absurd c9 (by decide +kernel))
  refine lv_iconst (v := nI 1) C.hx C.hb dL_refuses_531 (by decide +kernel) ?_
  refine lv_goto (tgt := 536) C.hx C.hb dL_refuses_532 (by decide) ?_
  refine lv_istore (lv' := [(15, .int (nI 1)), (14, .int (nI 1)), (13, .int (nI 8)), (12, .int (nI 1)), (11, .int (-2147483648)), (10, .int (-2147483648)), (9, .int (-2147483648)), (8, .int (-2147483648)), (7, .int (-2147483648)), (6, .int (-2147483648)), (5, .int (nI 3)), (4, .int (nI (dfO g0 a a))), (3, .int (nI 2147483647)), (0, .ref (ad 70)), (1, .int (nI a)), (2, .int (nI b))]) C.hx C.hb dL_refuses_536 hl (by decide) rfl (fun ls hl => ?_)
  refine lv_iload C.hx C.hb dL_refuses_538 (lv_at hl 1 rfl) ?_
  refine lv_if_eq (tgt := 567) C.hx C.hb dL_refuses_540 (by decide) (fun c9 => absurd c9 (by decide +kernel)) (fun _ => ?_)
  refine lv_aload_n C.hx C.hb dL_refuses_543 rfl (lv_at hl 13 rfl) ?_
  refine lv_iload C.hx C.hb dL_refuses_544 (lv_at hl 2 rfl) ?_
  refine lv_iload C.hx C.hb dL_refuses_546 (lv_at hl 7 rfl) ?_
  refine lv_iconst (v := nI 0) C.hx C.hb dL_refuses_548 (by decide +kernel) ?_
  refine lv_bipush (v := nI 99) C.hx C.hb dL_refuses_549 (by decide +kernel) ?_
  refine lv_iconst (v := nI 0) C.hx C.hb dL_refuses_551 (by decide +kernel) ?_
  refine q_cR (w := 8) (p0 := -2147483648) (p1 := nI 0) (p2 := nI 99) (p3 := nI 0) (r := -7000001) (c2 := 201) (s2 := 1206) C hs hP hD hS (ri_seal C.htr (notr (by decide +kernel) (by omega))) hl rfl (Nat.le_of_ble_eq_true rfl) ⟨Nat.le_of_ble_eq_true rfl, Nat.le_of_ble_eq_true rfl⟩ ⟨Nat.le_of_ble_eq_true rfl, Nat.le_of_ble_eq_true rfl⟩ ⟨Nat.le_of_ble_eq_true rfl, Nat.le_of_ble_eq_true rfl⟩ dL_refuses_552 (fun g z H locs hs hP hD hS => ?_)
  refine lv_ldc (v := -7000001) C.hx C.hb C.hown (C.hT.use kk_L_90 args) dL_refuses_555 ?_
  refine lv_icmp_ne (tgt := 564) C.hx C.hb dL_refuses_557 (by decide) (fun c9 => absurd c9 (by decide +kernel)) (fun _ => ?_)
  refine lv_iconst (v := nI 1) C.hx C.hb dL_refuses_560 (by decide +kernel) ?_
  refine lv_goto (tgt := 565) C.hx C.hb dL_refuses_561 (by decide) ?_
  refine lv_istore (lv' := [(12, .int (nI 1)), (15, .int (nI 1)), (14, .int (nI 1)), (13, .int (nI 8)), (11, .int (-2147483648)), (10, .int (-2147483648)), (9, .int (-2147483648)), (8, .int (-2147483648)), (7, .int (-2147483648)), (6, .int (-2147483648)), (5, .int (nI 3)), (4, .int (nI (dfO g0 a a))), (3, .int (nI 2147483647)), (0, .ref (ad 70)), (1, .int (nI a)), (2, .int (nI b))]) C.hx C.hb dL_refuses_565 hl (by decide) rfl (fun ls hl => ?_)
  refine lv_iload C.hx C.hb dL_refuses_567 (lv_at hl 1 rfl) ?_
  refine lv_if_eq (tgt := 637) C.hx C.hb dL_refuses_569 (by decide) (fun c9 => absurd c9 (by decide +kernel)) (fun _ => ?_)
  exact kk g z H locs ls hs hP hD hS hl

set_option maxRecDepth 100000 in
set_option maxHeartbeats 4000000 in
theorem tf_90 {p : Program} {l : Launch} {e : Env} {s : State} {m : MethodId} {args : Array Value} {below : List Frame} {meth : Method} {c : Code} {D : va_G} {cA : ClassId} {A : Nat → Prop} {ad : Nat → Nat} {Q : State → Prop} {g0 : Nat → Nat → Int32} {a t b : Nat} (ha : a ≤ 16) (hb9 : b ≤ 40) (hab : 0 < a → 0 < b) (C : lcx p l s m c cL_refuses 16 D cA A) (kk : ∀ (g : Nat → Nat → Int32) (z : Nat → Nat) (H : Heap) (locs : List Loc) (ls : Array Slot), SR g0 a t b g z → va_P D vwCl (rlW cA ad g z) H → va_D A (rlW cA ad g z) → va_S A s.heap H locs → lv_has ls 16 [(12, .int (nI 1)), (15, .int (nI 1)), (14, .int (nI 1)), (13, .int (nI 8)), (11, .int (-2147483648)), (10, .int (-2147483648)), (9, .int (-2147483648)), (8, .int (-2147483648)), (7, .int (-2147483648)), (6, .int (-2147483648)), (5, .int (nI 3)), (4, .int (nI (dfO g0 a a))), (3, .int (nI 2147483647)), (0, .ref (ad 70)), (1, .int (nI a)), (2, .int (nI b))] → W p l e rm_Lr s m args below meth c H locs 204 1224 Q (F0 m 630 ls [])) : ∀ (g : Nat → Nat → Int32) (z : Nat → Nat) (H : Heap) (locs : List Loc) (ls : Array Slot), SR g0 a t b g z → va_P D vwCl (rlW cA ad g z) H → va_D A (rlW cA ad g z) → va_S A s.heap H locs → lv_has ls 16 [(12, .int (nI 1)), (15, .int (nI 1)), (14, .int (nI 1)), (13, .int (nI 8)), (11, .int (-2147483648)), (10, .int (-2147483648)), (9, .int (-2147483648)), (8, .int (-2147483648)), (7, .int (-2147483648)), (6, .int (-2147483648)), (5, .int (nI 3)), (4, .int (nI (dfO g0 a a))), (3, .int (nI 2147483647)), (0, .ref (ad 70)), (1, .int (nI a)), (2, .int (nI b))] → W p l e rm_Lr s m args below meth c H locs 201 1206 Q (F0 m 572 ls []) := by
  intro g z H locs ls hs hP hD hS hl
  refine lv_iload C.hx C.hb dL_refuses_572 (lv_at hl 0 rfl) ?_
  refine lv_if_eq (tgt := 634) C.hx C.hb dL_refuses_574 (by decide) (fun c9 => absurd c9 (by decide +kernel)) (fun _ => ?_)
  refine lv_aload_n C.hx C.hb dL_refuses_577 rfl (lv_at hl 13 rfl) ?_
  refine lv_iload C.hx C.hb dL_refuses_578 (lv_at hl 3 rfl) ?_
  refine lv_iconst (v := nI 0) C.hx C.hb dL_refuses_580 (by decide +kernel) ?_
  refine lv_iload C.hx C.hb dL_refuses_581 (lv_at hl 7 rfl) ?_
  refine lv_bipush (v := nI 99) C.hx C.hb dL_refuses_583 (by decide +kernel) ?_
  refine lv_iconst (v := nI 0) C.hx C.hb dL_refuses_585 (by decide +kernel) ?_
  refine q_cR (w := 8) (p0 := nI 0) (p1 := -2147483648) (p2 := nI 99) (p3 := nI 0) (r := -7000001) (c2 := 202) (s2 := 1212) C hs hP hD hS (rj_seal C.htr (notr (by decide +kernel) (by omega))) hl rfl (Nat.le_of_ble_eq_true rfl) ⟨Nat.le_of_ble_eq_true rfl, Nat.le_of_ble_eq_true rfl⟩ ⟨Nat.le_of_ble_eq_true rfl, Nat.le_of_ble_eq_true rfl⟩ ⟨Nat.le_of_ble_eq_true rfl, Nat.le_of_ble_eq_true rfl⟩ dL_refuses_586 (fun g z H locs hs hP hD hS => ?_)
  refine lv_ldc (v := -7000001) C.hx C.hb C.hown (C.hT.use kk_L_90 args) dL_refuses_589 ?_
  refine lv_icmp_ne (tgt := 634) C.hx C.hb dL_refuses_591 (by decide) (fun c9 => absurd c9 (by decide +kernel)) (fun _ => ?_)
  refine lv_aload_n C.hx C.hb dL_refuses_594 rfl (lv_at hl 13 rfl) ?_
  refine lv_iload C.hx C.hb dL_refuses_595 (lv_at hl 3 rfl) ?_
  refine lv_iload C.hx C.hb dL_refuses_597 (lv_at hl 7 rfl) ?_
  refine lv_iload C.hx C.hb dL_refuses_599 (lv_at hl 7 rfl) ?_
  refine lv_iconst (v := nI 0) C.hx C.hb dL_refuses_601 (by decide +kernel) ?_
  refine lv_iconst (v := nI 0) C.hx C.hb dL_refuses_602 (by decide +kernel) ?_
  refine q_cR (w := 8) (p0 := -2147483648) (p1 := -2147483648) (p2 := nI 0) (p3 := nI 0) (r := -7000001) (c2 := 203) (s2 := 1218) C hs hP hD hS (ri_seal C.htr (notr (by decide +kernel) (by omega))) hl rfl (Nat.le_of_ble_eq_true rfl) ⟨Nat.le_of_ble_eq_true rfl, Nat.le_of_ble_eq_true rfl⟩ ⟨Nat.le_of_ble_eq_true rfl, Nat.le_of_ble_eq_true rfl⟩ ⟨Nat.le_of_ble_eq_true rfl, Nat.le_of_ble_eq_true rfl⟩ dL_refuses_603 (fun g z H locs hs hP hD hS => ?_)
  refine lv_ldc (v := -7000001) C.hx C.hb C.hown (C.hT.use kk_L_90 args) dL_refuses_606 ?_
  refine lv_icmp_ne (tgt := 634) C.hx C.hb dL_refuses_608 (by decide) (fun c9 => absurd c9 (by decide +kernel)) (fun _ => ?_)
  refine lv_iload_n C.hx C.hb dL_refuses_611 rfl (lv_at hl 14 rfl) ?_
  refine lv_if_eq (tgt := 630) C.hx C.hb dL_refuses_612 (by decide) (fun c9 => ?_) (fun c9 => ?_)
  · refine W.widen (k := 204) (n := 1224) (Nat.le_of_ble_eq_true rfl) (Nat.le_of_ble_eq_true rfl) ?_
    exact kk g z H locs ls hs hP hD hS hl
  · have ha0 : 0 < a := Nat.pos_of_ne_zero (fun q => c9 (by rw [q]; rfl))
    have hb0 : 0 < b := hab ha0
    refine lv_aload_n C.hx C.hb dL_refuses_615 rfl (lv_at hl 13 rfl) ?_
    refine lv_iload C.hx C.hb dL_refuses_616 (lv_at hl 3 rfl) ?_
    refine lv_iconst (v := nI 0) C.hx C.hb dL_refuses_618 (by decide +kernel) ?_
    refine lv_iconst (v := nI 0) C.hx C.hb dL_refuses_619 (by decide +kernel) ?_
    refine lv_iconst (v := nI 0) C.hx C.hb dL_refuses_620 (by decide +kernel) ?_
    refine lv_iconst (v := nI 0) C.hx C.hb dL_refuses_621 (by decide +kernel) ?_
    refine q_cR (w := 8) (p0 := nI 0) (p1 := nI 0) (p2 := nI 0) (p3 := nI 0) (r := -7000002) (c2 := 204) (s2 := 1224) C hs hP hD hS (rs_seal C.htr (q_r_nI (by omega))) hl rfl (Nat.le_of_ble_eq_true rfl) ⟨Nat.le_of_ble_eq_true rfl, Nat.le_of_ble_eq_true rfl⟩ ⟨Nat.le_of_ble_eq_true rfl, Nat.le_of_ble_eq_true rfl⟩ ⟨Nat.le_of_ble_eq_true rfl, Nat.le_of_ble_eq_true rfl⟩ dL_refuses_622 (fun g z H locs hs hP hD hS => ?_)
    refine lv_ldc (v := -7000002) C.hx C.hb C.hown (C.hT.use kk_L_93 args) dL_refuses_625 ?_
    refine lv_icmp_ne (tgt := 634) C.hx C.hb dL_refuses_627 (by decide) (fun c9 => absurd c9 (by decide +kernel)) (fun _ => ?_)
    exact kk g z H locs ls hs hP hD hS hl

set_option maxRecDepth 100000 in
set_option maxHeartbeats 4000000 in
theorem tf_91 {p : Program} {l : Launch} {e : Env} {s : State} {m : MethodId} {args : Array Value} {below : List Frame} {meth : Method} {c : Code} {D : va_G} {cA : ClassId} {A : Nat → Prop} {ad : Nat → Nat} {Q : State → Prop} {g0 : Nat → Nat → Int32} {a t b : Nat} (ha : a ≤ 16) (hb9 : b ≤ 40) (hab : 0 < a → 0 < b) (C : lcx p l s m c cL_refuses 16 D cA A) (kk : ∀ (g : Nat → Nat → Int32) (z : Nat → Nat) (H : Heap) (locs : List Loc) (ls : Array Slot), SR g0 a t b g z → va_P D vwCl (rlW cA ad g z) H → va_D A (rlW cA ad g z) → va_S A s.heap H locs → lv_has ls 16 [(12, .int (nI 1)), (15, .int (nI 1)), (14, .int (nI 1)), (13, .int (nI 9)), (11, .int (-2147483648)), (10, .int (-2147483648)), (9, .int (-2147483648)), (8, .int (-2147483648)), (7, .int (-2147483648)), (6, .int (-2147483648)), (5, .int (nI 3)), (4, .int (nI (dfO g0 a a))), (3, .int (nI 2147483647)), (0, .ref (ad 70)), (1, .int (nI a)), (2, .int (nI b))] → W p l e rm_Lr s m args below meth c H locs 205 1230 Q (F0 m 577 ls [])) : ∀ (g : Nat → Nat → Int32) (z : Nat → Nat) (H : Heap) (locs : List Loc) (ls : Array Slot), SR g0 a t b g z → va_P D vwCl (rlW cA ad g z) H → va_D A (rlW cA ad g z) → va_S A s.heap H locs → lv_has ls 16 [(12, .int (nI 1)), (15, .int (nI 1)), (14, .int (nI 1)), (13, .int (nI 8)), (11, .int (-2147483648)), (10, .int (-2147483648)), (9, .int (-2147483648)), (8, .int (-2147483648)), (7, .int (-2147483648)), (6, .int (-2147483648)), (5, .int (nI 3)), (4, .int (nI (dfO g0 a a))), (3, .int (nI 2147483647)), (0, .ref (ad 70)), (1, .int (nI a)), (2, .int (nI b))] → W p l e rm_Lr s m args below meth c H locs 204 1224 Q (F0 m 630 ls []) := by
  intro g z H locs ls hs hP hD hS hl
  refine lv_iconst (v := nI 1) C.hx C.hb dL_refuses_630 (by decide +kernel) ?_
  refine lv_goto (tgt := 635) C.hx C.hb dL_refuses_631 (by decide) ?_
  refine lv_istore (lv' := [(12, .int (nI 1)), (15, .int (nI 1)), (14, .int (nI 1)), (13, .int (nI 8)), (11, .int (-2147483648)), (10, .int (-2147483648)), (9, .int (-2147483648)), (8, .int (-2147483648)), (7, .int (-2147483648)), (6, .int (-2147483648)), (5, .int (nI 3)), (4, .int (nI (dfO g0 a a))), (3, .int (nI 2147483647)), (0, .ref (ad 70)), (1, .int (nI a)), (2, .int (nI b))]) C.hx C.hb dL_refuses_635 hl (by decide) rfl (fun ls hl => ?_)
  refine lv_iload C.hx C.hb dL_refuses_637 (lv_at hl 3 rfl) ?_
  refine lv_bipush (v := nI 15) C.hx C.hb dL_refuses_639 (by decide +kernel) ?_
  refine lv_icmp_eq (tgt := 658) C.hx C.hb dL_refuses_641 (by decide) (fun c9 => absurd c9 (by decide +kernel)) (fun _ => ?_)
  refine lv_iload C.hx C.hb dL_refuses_644 (lv_at hl 3 rfl) ?_
  refine lv_bipush (v := nI 16) C.hx C.hb dL_refuses_646 (by decide +kernel) ?_
  refine lv_icmp_eq (tgt := 658) C.hx C.hb dL_refuses_648 (by decide) (fun c9 => absurd c9 (by decide +kernel)) (fun _ => ?_)
  refine lv_iload C.hx C.hb dL_refuses_651 (lv_at hl 3 rfl) ?_
  refine lv_bipush (v := nI 18) C.hx C.hb dL_refuses_653 (by decide +kernel) ?_
  refine lv_icmp_ne (tgt := 681) C.hx C.hb dL_refuses_655 (by decide) (fun _ => ?_) (fun c9 => absurd c9 (by decide +kernel))
  refine lv_iinc (v := nI 9) (lv' := [(13, .int (nI 9)), (12, .int (nI 1)), (15, .int (nI 1)), (14, .int (nI 1)), (11, .int (-2147483648)), (10, .int (-2147483648)), (9, .int (-2147483648)), (8, .int (-2147483648)), (7, .int (-2147483648)), (6, .int (-2147483648)), (5, .int (nI 3)), (4, .int (nI (dfO g0 a a))), (3, .int (nI 2147483647)), (0, .ref (ad 70)), (1, .int (nI a)), (2, .int (nI b))]) C.hx C.hb dL_refuses_681 hl (k := 3) rfl (by decide +kernel) (by decide) rfl (fun ls hl => ?_)
  refine lv_goto (tgt := 459) C.hx C.hb dL_refuses_684 (by decide) ?_
  refine lv_iload C.hx C.hb dL_refuses_459 (lv_at hl 0 rfl) ?_
  refine lv_bipush (v := nI 20) C.hx C.hb dL_refuses_461 (by decide +kernel) ?_
  refine lv_icmp_ge (tgt := 687) C.hx C.hb dL_refuses_463 (by decide) (fun c9 => absurd c9 (by decide +kernel)) (fun _ => ?_)
  refine lv_iload C.hx C.hb dL_refuses_466 (lv_at hl 1 rfl) ?_
  refine lv_if_eq (tgt := 687) C.hx C.hb dL_refuses_468 (by decide) (fun c9 => absurd c9 (by decide +kernel)) (fun _ => ?_)
  refine lv_iload C.hx C.hb dL_refuses_471 (lv_at hl 0 rfl) ?_
  refine lv_iconst (v := nI 4) C.hx C.hb dL_refuses_473 (by decide +kernel) ?_
  refine lv_icmp_lt (tgt := 497) C.hx C.hb dL_refuses_474 (by decide) (fun c9 => absurd c9 (by decide +kernel)) (fun _ => ?_)
  refine lv_iload C.hx C.hb dL_refuses_477 (lv_at hl 0 rfl) ?_
  refine lv_iconst (v := nI 5) C.hx C.hb dL_refuses_479 (by decide +kernel) ?_
  refine lv_icmp_le (tgt := 490) C.hx C.hb dL_refuses_480 (by decide) (fun c9 => absurd c9 (by decide +kernel)) (fun _ => ?_)
  refine lv_iload C.hx C.hb dL_refuses_483 (lv_at hl 0 rfl) ?_
  refine lv_bipush (v := nI 15) C.hx C.hb dL_refuses_485 (by decide +kernel) ?_
  refine lv_icmp_lt (tgt := 497) C.hx C.hb dL_refuses_487 (by decide) (fun _ => ?_) (fun c9 => absurd c9 (by decide +kernel))
  refine lv_iconst (v := nI 1) C.hx C.hb dL_refuses_497 (by decide +kernel) ?_
  refine lv_goto (tgt := 502) C.hx C.hb dL_refuses_498 (by decide) ?_
  refine lv_istore (lv' := [(14, .int (nI 1)), (13, .int (nI 9)), (12, .int (nI 1)), (15, .int (nI 1)), (11, .int (-2147483648)), (10, .int (-2147483648)), (9, .int (-2147483648)), (8, .int (-2147483648)), (7, .int (-2147483648)), (6, .int (-2147483648)), (5, .int (nI 3)), (4, .int (nI (dfO g0 a a))), (3, .int (nI 2147483647)), (0, .ref (ad 70)), (1, .int (nI a)), (2, .int (nI b))]) C.hx C.hb dL_refuses_502 hl (by decide) rfl (fun ls hl => ?_)
  refine lv_iload C.hx C.hb dL_refuses_504 (lv_at hl 1 rfl) ?_
  refine lv_iconst (v := nI 3) C.hx C.hb dL_refuses_506 (by decide +kernel) ?_
  refine lv_icmp_eq (tgt := 531) C.hx C.hb dL_refuses_507 (by decide) (fun c9 => absurd c9 (by decide +kernel)) (fun _ => ?_)
  refine lv_iload C.hx C.hb dL_refuses_510 (lv_at hl 1 rfl) ?_
  refine lv_bipush (v := nI 7) C.hx C.hb dL_refuses_512 (by decide +kernel) ?_
  refine lv_icmp_le (tgt := 524) C.hx C.hb dL_refuses_514 (by decide) (fun c9 => absurd c9 (by decide +kernel)) (fun _ => ?_)
  refine lv_iload C.hx C.hb dL_refuses_517 (lv_at hl 1 rfl) ?_
  refine lv_bipush (v := nI 13) C.hx C.hb dL_refuses_519 (by decide +kernel) ?_
  refine lv_icmp_lt (tgt := 531) C.hx C.hb dL_refuses_521 (by decide) (fun _ => ?_) (fun c9 => absurd c9 (by decide +kernel))
  refine lv_iconst (v := nI 1) C.hx C.hb dL_refuses_531 (by decide +kernel) ?_
  refine lv_goto (tgt := 536) C.hx C.hb dL_refuses_532 (by decide) ?_
  refine lv_istore (lv' := [(15, .int (nI 1)), (14, .int (nI 1)), (13, .int (nI 9)), (12, .int (nI 1)), (11, .int (-2147483648)), (10, .int (-2147483648)), (9, .int (-2147483648)), (8, .int (-2147483648)), (7, .int (-2147483648)), (6, .int (-2147483648)), (5, .int (nI 3)), (4, .int (nI (dfO g0 a a))), (3, .int (nI 2147483647)), (0, .ref (ad 70)), (1, .int (nI a)), (2, .int (nI b))]) C.hx C.hb dL_refuses_536 hl (by decide) rfl (fun ls hl => ?_)
  refine lv_iload C.hx C.hb dL_refuses_538 (lv_at hl 1 rfl) ?_
  refine lv_if_eq (tgt := 567) C.hx C.hb dL_refuses_540 (by decide) (fun c9 => absurd c9 (by decide +kernel)) (fun _ => ?_)
  refine lv_aload_n C.hx C.hb dL_refuses_543 rfl (lv_at hl 13 rfl) ?_
  refine lv_iload C.hx C.hb dL_refuses_544 (lv_at hl 2 rfl) ?_
  refine lv_iload C.hx C.hb dL_refuses_546 (lv_at hl 7 rfl) ?_
  refine lv_iconst (v := nI 0) C.hx C.hb dL_refuses_548 (by decide +kernel) ?_
  refine lv_bipush (v := nI 99) C.hx C.hb dL_refuses_549 (by decide +kernel) ?_
  refine lv_iconst (v := nI 0) C.hx C.hb dL_refuses_551 (by decide +kernel) ?_
  refine q_cR (w := 9) (p0 := -2147483648) (p1 := nI 0) (p2 := nI 99) (p3 := nI 0) (r := -7000001) (c2 := 205) (s2 := 1230) C hs hP hD hS (ri_block C.htr (notr (by decide +kernel) (by omega))) hl rfl (Nat.le_of_ble_eq_true rfl) ⟨Nat.le_of_ble_eq_true rfl, Nat.le_of_ble_eq_true rfl⟩ ⟨Nat.le_of_ble_eq_true rfl, Nat.le_of_ble_eq_true rfl⟩ ⟨Nat.le_of_ble_eq_true rfl, Nat.le_of_ble_eq_true rfl⟩ dL_refuses_552 (fun g z H locs hs hP hD hS => ?_)
  refine lv_ldc (v := -7000001) C.hx C.hb C.hown (C.hT.use kk_L_90 args) dL_refuses_555 ?_
  refine lv_icmp_ne (tgt := 564) C.hx C.hb dL_refuses_557 (by decide) (fun c9 => absurd c9 (by decide +kernel)) (fun _ => ?_)
  refine lv_iconst (v := nI 1) C.hx C.hb dL_refuses_560 (by decide +kernel) ?_
  refine lv_goto (tgt := 565) C.hx C.hb dL_refuses_561 (by decide) ?_
  refine lv_istore (lv' := [(12, .int (nI 1)), (15, .int (nI 1)), (14, .int (nI 1)), (13, .int (nI 9)), (11, .int (-2147483648)), (10, .int (-2147483648)), (9, .int (-2147483648)), (8, .int (-2147483648)), (7, .int (-2147483648)), (6, .int (-2147483648)), (5, .int (nI 3)), (4, .int (nI (dfO g0 a a))), (3, .int (nI 2147483647)), (0, .ref (ad 70)), (1, .int (nI a)), (2, .int (nI b))]) C.hx C.hb dL_refuses_565 hl (by decide) rfl (fun ls hl => ?_)
  refine lv_iload C.hx C.hb dL_refuses_567 (lv_at hl 1 rfl) ?_
  refine lv_if_eq (tgt := 637) C.hx C.hb dL_refuses_569 (by decide) (fun c9 => absurd c9 (by decide +kernel)) (fun _ => ?_)
  refine lv_iload C.hx C.hb dL_refuses_572 (lv_at hl 0 rfl) ?_
  refine lv_if_eq (tgt := 634) C.hx C.hb dL_refuses_574 (by decide) (fun c9 => absurd c9 (by decide +kernel)) (fun _ => ?_)
  exact kk g z H locs ls hs hP hD hS hl

set_option maxRecDepth 100000 in
set_option maxHeartbeats 4000000 in
theorem tf_92 {p : Program} {l : Launch} {e : Env} {s : State} {m : MethodId} {args : Array Value} {below : List Frame} {meth : Method} {c : Code} {D : va_G} {cA : ClassId} {A : Nat → Prop} {ad : Nat → Nat} {Q : State → Prop} {g0 : Nat → Nat → Int32} {a t b : Nat} (ha : a ≤ 16) (hb9 : b ≤ 40) (hab : 0 < a → 0 < b) (C : lcx p l s m c cL_refuses 16 D cA A) (kk : ∀ (g : Nat → Nat → Int32) (z : Nat → Nat) (H : Heap) (locs : List Loc) (ls : Array Slot), SR g0 a t b g z → va_P D vwCl (rlW cA ad g z) H → va_D A (rlW cA ad g z) → va_S A s.heap H locs → lv_has ls 16 [(12, .int (nI 1)), (15, .int (nI 1)), (14, .int (nI 1)), (13, .int (nI 9)), (11, .int (-2147483648)), (10, .int (-2147483648)), (9, .int (-2147483648)), (8, .int (-2147483648)), (7, .int (-2147483648)), (6, .int (-2147483648)), (5, .int (nI 3)), (4, .int (nI (dfO g0 a a))), (3, .int (nI 2147483647)), (0, .ref (ad 70)), (1, .int (nI a)), (2, .int (nI b))] → W p l e rm_Lr s m args below meth c H locs 208 1248 Q (F0 m 630 ls [])) : ∀ (g : Nat → Nat → Int32) (z : Nat → Nat) (H : Heap) (locs : List Loc) (ls : Array Slot), SR g0 a t b g z → va_P D vwCl (rlW cA ad g z) H → va_D A (rlW cA ad g z) → va_S A s.heap H locs → lv_has ls 16 [(12, .int (nI 1)), (15, .int (nI 1)), (14, .int (nI 1)), (13, .int (nI 9)), (11, .int (-2147483648)), (10, .int (-2147483648)), (9, .int (-2147483648)), (8, .int (-2147483648)), (7, .int (-2147483648)), (6, .int (-2147483648)), (5, .int (nI 3)), (4, .int (nI (dfO g0 a a))), (3, .int (nI 2147483647)), (0, .ref (ad 70)), (1, .int (nI a)), (2, .int (nI b))] → W p l e rm_Lr s m args below meth c H locs 205 1230 Q (F0 m 577 ls []) := by
  intro g z H locs ls hs hP hD hS hl
  refine lv_aload_n C.hx C.hb dL_refuses_577 rfl (lv_at hl 13 rfl) ?_
  refine lv_iload C.hx C.hb dL_refuses_578 (lv_at hl 3 rfl) ?_
  refine lv_iconst (v := nI 0) C.hx C.hb dL_refuses_580 (by decide +kernel) ?_
  refine lv_iload C.hx C.hb dL_refuses_581 (lv_at hl 7 rfl) ?_
  refine lv_bipush (v := nI 99) C.hx C.hb dL_refuses_583 (by decide +kernel) ?_
  refine lv_iconst (v := nI 0) C.hx C.hb dL_refuses_585 (by decide +kernel) ?_
  refine q_cR (w := 9) (p0 := nI 0) (p1 := -2147483648) (p2 := nI 99) (p3 := nI 0) (r := -7000001) (c2 := 206) (s2 := 1236) C hs hP hD hS (rj_block C.htr (notr (by decide +kernel) (by omega))) hl rfl (Nat.le_of_ble_eq_true rfl) ⟨Nat.le_of_ble_eq_true rfl, Nat.le_of_ble_eq_true rfl⟩ ⟨Nat.le_of_ble_eq_true rfl, Nat.le_of_ble_eq_true rfl⟩ ⟨Nat.le_of_ble_eq_true rfl, Nat.le_of_ble_eq_true rfl⟩ dL_refuses_586 (fun g z H locs hs hP hD hS => ?_)
  refine lv_ldc (v := -7000001) C.hx C.hb C.hown (C.hT.use kk_L_90 args) dL_refuses_589 ?_
  refine lv_icmp_ne (tgt := 634) C.hx C.hb dL_refuses_591 (by decide) (fun c9 => absurd c9 (by decide +kernel)) (fun _ => ?_)
  refine lv_aload_n C.hx C.hb dL_refuses_594 rfl (lv_at hl 13 rfl) ?_
  refine lv_iload C.hx C.hb dL_refuses_595 (lv_at hl 3 rfl) ?_
  refine lv_iload C.hx C.hb dL_refuses_597 (lv_at hl 7 rfl) ?_
  refine lv_iload C.hx C.hb dL_refuses_599 (lv_at hl 7 rfl) ?_
  refine lv_iconst (v := nI 0) C.hx C.hb dL_refuses_601 (by decide +kernel) ?_
  refine lv_iconst (v := nI 0) C.hx C.hb dL_refuses_602 (by decide +kernel) ?_
  refine q_cR (w := 9) (p0 := -2147483648) (p1 := -2147483648) (p2 := nI 0) (p3 := nI 0) (r := -7000001) (c2 := 207) (s2 := 1242) C hs hP hD hS (ri_block C.htr (notr (by decide +kernel) (by omega))) hl rfl (Nat.le_of_ble_eq_true rfl) ⟨Nat.le_of_ble_eq_true rfl, Nat.le_of_ble_eq_true rfl⟩ ⟨Nat.le_of_ble_eq_true rfl, Nat.le_of_ble_eq_true rfl⟩ ⟨Nat.le_of_ble_eq_true rfl, Nat.le_of_ble_eq_true rfl⟩ dL_refuses_603 (fun g z H locs hs hP hD hS => ?_)
  refine lv_ldc (v := -7000001) C.hx C.hb C.hown (C.hT.use kk_L_90 args) dL_refuses_606 ?_
  refine lv_icmp_ne (tgt := 634) C.hx C.hb dL_refuses_608 (by decide) (fun c9 => absurd c9 (by decide +kernel)) (fun _ => ?_)
  refine lv_iload_n C.hx C.hb dL_refuses_611 rfl (lv_at hl 14 rfl) ?_
  refine lv_if_eq (tgt := 630) C.hx C.hb dL_refuses_612 (by decide) (fun c9 => ?_) (fun c9 => ?_)
  · refine W.widen (k := 208) (n := 1248) (Nat.le_of_ble_eq_true rfl) (Nat.le_of_ble_eq_true rfl) ?_
    exact kk g z H locs ls hs hP hD hS hl
  · have ha0 : 0 < a := Nat.pos_of_ne_zero (fun q => c9 (by rw [q]; rfl))
    have hb0 : 0 < b := hab ha0
    refine lv_aload_n C.hx C.hb dL_refuses_615 rfl (lv_at hl 13 rfl) ?_
    refine lv_iload C.hx C.hb dL_refuses_616 (lv_at hl 3 rfl) ?_
    refine lv_iconst (v := nI 0) C.hx C.hb dL_refuses_618 (by decide +kernel) ?_
    refine lv_iconst (v := nI 0) C.hx C.hb dL_refuses_619 (by decide +kernel) ?_
    refine lv_iconst (v := nI 0) C.hx C.hb dL_refuses_620 (by decide +kernel) ?_
    refine lv_iconst (v := nI 0) C.hx C.hb dL_refuses_621 (by decide +kernel) ?_
    refine q_cR (w := 9) (p0 := nI 0) (p1 := nI 0) (p2 := nI 0) (p3 := nI 0) (r := -7000002) (c2 := 208) (s2 := 1248) C hs hP hD hS (rs_block C.htr (q_r_nI (by omega))) hl rfl (Nat.le_of_ble_eq_true rfl) ⟨Nat.le_of_ble_eq_true rfl, Nat.le_of_ble_eq_true rfl⟩ ⟨Nat.le_of_ble_eq_true rfl, Nat.le_of_ble_eq_true rfl⟩ ⟨Nat.le_of_ble_eq_true rfl, Nat.le_of_ble_eq_true rfl⟩ dL_refuses_622 (fun g z H locs hs hP hD hS => ?_)
    refine lv_ldc (v := -7000002) C.hx C.hb C.hown (C.hT.use kk_L_93 args) dL_refuses_625 ?_
    refine lv_icmp_ne (tgt := 634) C.hx C.hb dL_refuses_627 (by decide) (fun c9 => absurd c9 (by decide +kernel)) (fun _ => ?_)
    exact kk g z H locs ls hs hP hD hS hl

set_option maxRecDepth 100000 in
set_option maxHeartbeats 4000000 in
theorem tf_93 {p : Program} {l : Launch} {e : Env} {s : State} {m : MethodId} {args : Array Value} {below : List Frame} {meth : Method} {c : Code} {D : va_G} {cA : ClassId} {A : Nat → Prop} {ad : Nat → Nat} {Q : State → Prop} {g0 : Nat → Nat → Int32} {a t b : Nat} (ha : a ≤ 16) (hb9 : b ≤ 40) (hab : 0 < a → 0 < b) (C : lcx p l s m c cL_refuses 16 D cA A) (kk : ∀ (g : Nat → Nat → Int32) (z : Nat → Nat) (H : Heap) (locs : List Loc) (ls : Array Slot), SR g0 a t b g z → va_P D vwCl (rlW cA ad g z) H → va_D A (rlW cA ad g z) → va_S A s.heap H locs → lv_has ls 16 [(12, .int (nI 1)), (15, .int (nI 1)), (14, .int (nI 1)), (13, .int (nI 10)), (11, .int (-2147483648)), (10, .int (-2147483648)), (9, .int (-2147483648)), (8, .int (-2147483648)), (7, .int (-2147483648)), (6, .int (-2147483648)), (5, .int (nI 3)), (4, .int (nI (dfO g0 a a))), (3, .int (nI 2147483647)), (0, .ref (ad 70)), (1, .int (nI a)), (2, .int (nI b))] → W p l e rm_Lr s m args below meth c H locs 209 1254 Q (F0 m 577 ls [])) : ∀ (g : Nat → Nat → Int32) (z : Nat → Nat) (H : Heap) (locs : List Loc) (ls : Array Slot), SR g0 a t b g z → va_P D vwCl (rlW cA ad g z) H → va_D A (rlW cA ad g z) → va_S A s.heap H locs → lv_has ls 16 [(12, .int (nI 1)), (15, .int (nI 1)), (14, .int (nI 1)), (13, .int (nI 9)), (11, .int (-2147483648)), (10, .int (-2147483648)), (9, .int (-2147483648)), (8, .int (-2147483648)), (7, .int (-2147483648)), (6, .int (-2147483648)), (5, .int (nI 3)), (4, .int (nI (dfO g0 a a))), (3, .int (nI 2147483647)), (0, .ref (ad 70)), (1, .int (nI a)), (2, .int (nI b))] → W p l e rm_Lr s m args below meth c H locs 208 1248 Q (F0 m 630 ls []) := by
  intro g z H locs ls hs hP hD hS hl
  refine lv_iconst (v := nI 1) C.hx C.hb dL_refuses_630 (by decide +kernel) ?_
  refine lv_goto (tgt := 635) C.hx C.hb dL_refuses_631 (by decide) ?_
  refine lv_istore (lv' := [(12, .int (nI 1)), (15, .int (nI 1)), (14, .int (nI 1)), (13, .int (nI 9)), (11, .int (-2147483648)), (10, .int (-2147483648)), (9, .int (-2147483648)), (8, .int (-2147483648)), (7, .int (-2147483648)), (6, .int (-2147483648)), (5, .int (nI 3)), (4, .int (nI (dfO g0 a a))), (3, .int (nI 2147483647)), (0, .ref (ad 70)), (1, .int (nI a)), (2, .int (nI b))]) C.hx C.hb dL_refuses_635 hl (by decide) rfl (fun ls hl => ?_)
  refine lv_iload C.hx C.hb dL_refuses_637 (lv_at hl 3 rfl) ?_
  refine lv_bipush (v := nI 15) C.hx C.hb dL_refuses_639 (by decide +kernel) ?_
  refine lv_icmp_eq (tgt := 658) C.hx C.hb dL_refuses_641 (by decide) (fun c9 => absurd c9 (by decide +kernel)) (fun _ => ?_)
  refine lv_iload C.hx C.hb dL_refuses_644 (lv_at hl 3 rfl) ?_
  refine lv_bipush (v := nI 16) C.hx C.hb dL_refuses_646 (by decide +kernel) ?_
  refine lv_icmp_eq (tgt := 658) C.hx C.hb dL_refuses_648 (by decide) (fun c9 => absurd c9 (by decide +kernel)) (fun _ => ?_)
  refine lv_iload C.hx C.hb dL_refuses_651 (lv_at hl 3 rfl) ?_
  refine lv_bipush (v := nI 18) C.hx C.hb dL_refuses_653 (by decide +kernel) ?_
  refine lv_icmp_ne (tgt := 681) C.hx C.hb dL_refuses_655 (by decide) (fun _ => ?_) (fun c9 => absurd c9 (by decide +kernel))
  refine lv_iinc (v := nI 10) (lv' := [(13, .int (nI 10)), (12, .int (nI 1)), (15, .int (nI 1)), (14, .int (nI 1)), (11, .int (-2147483648)), (10, .int (-2147483648)), (9, .int (-2147483648)), (8, .int (-2147483648)), (7, .int (-2147483648)), (6, .int (-2147483648)), (5, .int (nI 3)), (4, .int (nI (dfO g0 a a))), (3, .int (nI 2147483647)), (0, .ref (ad 70)), (1, .int (nI a)), (2, .int (nI b))]) C.hx C.hb dL_refuses_681 hl (k := 3) rfl (by decide +kernel) (by decide) rfl (fun ls hl => ?_)
  refine lv_goto (tgt := 459) C.hx C.hb dL_refuses_684 (by decide) ?_
  refine lv_iload C.hx C.hb dL_refuses_459 (lv_at hl 0 rfl) ?_
  refine lv_bipush (v := nI 20) C.hx C.hb dL_refuses_461 (by decide +kernel) ?_
  refine lv_icmp_ge (tgt := 687) C.hx C.hb dL_refuses_463 (by decide) (fun c9 => absurd c9 (by decide +kernel)) (fun _ => ?_)
  refine lv_iload C.hx C.hb dL_refuses_466 (lv_at hl 1 rfl) ?_
  refine lv_if_eq (tgt := 687) C.hx C.hb dL_refuses_468 (by decide) (fun c9 => absurd c9 (by decide +kernel)) (fun _ => ?_)
  refine lv_iload C.hx C.hb dL_refuses_471 (lv_at hl 0 rfl) ?_
  refine lv_iconst (v := nI 4) C.hx C.hb dL_refuses_473 (by decide +kernel) ?_
  refine lv_icmp_lt (tgt := 497) C.hx C.hb dL_refuses_474 (by decide) (fun c9 => absurd c9 (by decide +kernel)) (fun _ => ?_)
  refine lv_iload C.hx C.hb dL_refuses_477 (lv_at hl 0 rfl) ?_
  refine lv_iconst (v := nI 5) C.hx C.hb dL_refuses_479 (by decide +kernel) ?_
  refine lv_icmp_le (tgt := 490) C.hx C.hb dL_refuses_480 (by decide) (fun c9 => absurd c9 (by decide +kernel)) (fun _ => ?_)
  refine lv_iload C.hx C.hb dL_refuses_483 (lv_at hl 0 rfl) ?_
  refine lv_bipush (v := nI 15) C.hx C.hb dL_refuses_485 (by decide +kernel) ?_
  refine lv_icmp_lt (tgt := 497) C.hx C.hb dL_refuses_487 (by decide) (fun _ => ?_) (fun c9 => absurd c9 (by decide +kernel))
  refine lv_iconst (v := nI 1) C.hx C.hb dL_refuses_497 (by decide +kernel) ?_
  refine lv_goto (tgt := 502) C.hx C.hb dL_refuses_498 (by decide) ?_
  refine lv_istore (lv' := [(14, .int (nI 1)), (13, .int (nI 10)), (12, .int (nI 1)), (15, .int (nI 1)), (11, .int (-2147483648)), (10, .int (-2147483648)), (9, .int (-2147483648)), (8, .int (-2147483648)), (7, .int (-2147483648)), (6, .int (-2147483648)), (5, .int (nI 3)), (4, .int (nI (dfO g0 a a))), (3, .int (nI 2147483647)), (0, .ref (ad 70)), (1, .int (nI a)), (2, .int (nI b))]) C.hx C.hb dL_refuses_502 hl (by decide) rfl (fun ls hl => ?_)
  refine lv_iload C.hx C.hb dL_refuses_504 (lv_at hl 1 rfl) ?_
  refine lv_iconst (v := nI 3) C.hx C.hb dL_refuses_506 (by decide +kernel) ?_
  refine lv_icmp_eq (tgt := 531) C.hx C.hb dL_refuses_507 (by decide) (fun c9 => absurd c9 (by decide +kernel)) (fun _ => ?_)
  refine lv_iload C.hx C.hb dL_refuses_510 (lv_at hl 1 rfl) ?_
  refine lv_bipush (v := nI 7) C.hx C.hb dL_refuses_512 (by decide +kernel) ?_
  refine lv_icmp_le (tgt := 524) C.hx C.hb dL_refuses_514 (by decide) (fun c9 => absurd c9 (by decide +kernel)) (fun _ => ?_)
  refine lv_iload C.hx C.hb dL_refuses_517 (lv_at hl 1 rfl) ?_
  refine lv_bipush (v := nI 13) C.hx C.hb dL_refuses_519 (by decide +kernel) ?_
  refine lv_icmp_lt (tgt := 531) C.hx C.hb dL_refuses_521 (by decide) (fun _ => ?_) (fun c9 => absurd c9 (by decide +kernel))
  refine lv_iconst (v := nI 1) C.hx C.hb dL_refuses_531 (by decide +kernel) ?_
  refine lv_goto (tgt := 536) C.hx C.hb dL_refuses_532 (by decide) ?_
  refine lv_istore (lv' := [(15, .int (nI 1)), (14, .int (nI 1)), (13, .int (nI 10)), (12, .int (nI 1)), (11, .int (-2147483648)), (10, .int (-2147483648)), (9, .int (-2147483648)), (8, .int (-2147483648)), (7, .int (-2147483648)), (6, .int (-2147483648)), (5, .int (nI 3)), (4, .int (nI (dfO g0 a a))), (3, .int (nI 2147483647)), (0, .ref (ad 70)), (1, .int (nI a)), (2, .int (nI b))]) C.hx C.hb dL_refuses_536 hl (by decide) rfl (fun ls hl => ?_)
  refine lv_iload C.hx C.hb dL_refuses_538 (lv_at hl 1 rfl) ?_
  refine lv_if_eq (tgt := 567) C.hx C.hb dL_refuses_540 (by decide) (fun c9 => absurd c9 (by decide +kernel)) (fun _ => ?_)
  refine lv_aload_n C.hx C.hb dL_refuses_543 rfl (lv_at hl 13 rfl) ?_
  refine lv_iload C.hx C.hb dL_refuses_544 (lv_at hl 2 rfl) ?_
  refine lv_iload C.hx C.hb dL_refuses_546 (lv_at hl 7 rfl) ?_
  refine lv_iconst (v := nI 0) C.hx C.hb dL_refuses_548 (by decide +kernel) ?_
  refine lv_bipush (v := nI 99) C.hx C.hb dL_refuses_549 (by decide +kernel) ?_
  refine lv_iconst (v := nI 0) C.hx C.hb dL_refuses_551 (by decide +kernel) ?_
  refine q_cR (w := 10) (p0 := -2147483648) (p1 := nI 0) (p2 := nI 99) (p3 := nI 0) (r := -7000001) (c2 := 209) (s2 := 1254) C hs hP hD hS (ri_weight C.htr (notr (by decide +kernel) (by omega))) hl rfl (Nat.le_of_ble_eq_true rfl) ⟨Nat.le_of_ble_eq_true rfl, Nat.le_of_ble_eq_true rfl⟩ ⟨Nat.le_of_ble_eq_true rfl, Nat.le_of_ble_eq_true rfl⟩ ⟨Nat.le_of_ble_eq_true rfl, Nat.le_of_ble_eq_true rfl⟩ dL_refuses_552 (fun g z H locs hs hP hD hS => ?_)
  refine lv_ldc (v := -7000001) C.hx C.hb C.hown (C.hT.use kk_L_90 args) dL_refuses_555 ?_
  refine lv_icmp_ne (tgt := 564) C.hx C.hb dL_refuses_557 (by decide) (fun c9 => absurd c9 (by decide +kernel)) (fun _ => ?_)
  refine lv_iconst (v := nI 1) C.hx C.hb dL_refuses_560 (by decide +kernel) ?_
  refine lv_goto (tgt := 565) C.hx C.hb dL_refuses_561 (by decide) ?_
  refine lv_istore (lv' := [(12, .int (nI 1)), (15, .int (nI 1)), (14, .int (nI 1)), (13, .int (nI 10)), (11, .int (-2147483648)), (10, .int (-2147483648)), (9, .int (-2147483648)), (8, .int (-2147483648)), (7, .int (-2147483648)), (6, .int (-2147483648)), (5, .int (nI 3)), (4, .int (nI (dfO g0 a a))), (3, .int (nI 2147483647)), (0, .ref (ad 70)), (1, .int (nI a)), (2, .int (nI b))]) C.hx C.hb dL_refuses_565 hl (by decide) rfl (fun ls hl => ?_)
  refine lv_iload C.hx C.hb dL_refuses_567 (lv_at hl 1 rfl) ?_
  refine lv_if_eq (tgt := 637) C.hx C.hb dL_refuses_569 (by decide) (fun c9 => absurd c9 (by decide +kernel)) (fun _ => ?_)
  refine lv_iload C.hx C.hb dL_refuses_572 (lv_at hl 0 rfl) ?_
  refine lv_if_eq (tgt := 634) C.hx C.hb dL_refuses_574 (by decide) (fun c9 => absurd c9 (by decide +kernel)) (fun _ => ?_)
  exact kk g z H locs ls hs hP hD hS hl

set_option maxRecDepth 100000 in
set_option maxHeartbeats 4000000 in
theorem tf_94 {p : Program} {l : Launch} {e : Env} {s : State} {m : MethodId} {args : Array Value} {below : List Frame} {meth : Method} {c : Code} {D : va_G} {cA : ClassId} {A : Nat → Prop} {ad : Nat → Nat} {Q : State → Prop} {g0 : Nat → Nat → Int32} {a t b : Nat} (ha : a ≤ 16) (hb9 : b ≤ 40) (hab : 0 < a → 0 < b) (C : lcx p l s m c cL_refuses 16 D cA A) (kk : ∀ (g : Nat → Nat → Int32) (z : Nat → Nat) (H : Heap) (locs : List Loc) (ls : Array Slot), SR g0 a t b g z → va_P D vwCl (rlW cA ad g z) H → va_D A (rlW cA ad g z) → va_S A s.heap H locs → lv_has ls 16 [(12, .int (nI 1)), (15, .int (nI 1)), (14, .int (nI 1)), (13, .int (nI 10)), (11, .int (-2147483648)), (10, .int (-2147483648)), (9, .int (-2147483648)), (8, .int (-2147483648)), (7, .int (-2147483648)), (6, .int (-2147483648)), (5, .int (nI 3)), (4, .int (nI (dfO g0 a a))), (3, .int (nI 2147483647)), (0, .ref (ad 70)), (1, .int (nI a)), (2, .int (nI b))] → W p l e rm_Lr s m args below meth c H locs 212 1272 Q (F0 m 630 ls [])) : ∀ (g : Nat → Nat → Int32) (z : Nat → Nat) (H : Heap) (locs : List Loc) (ls : Array Slot), SR g0 a t b g z → va_P D vwCl (rlW cA ad g z) H → va_D A (rlW cA ad g z) → va_S A s.heap H locs → lv_has ls 16 [(12, .int (nI 1)), (15, .int (nI 1)), (14, .int (nI 1)), (13, .int (nI 10)), (11, .int (-2147483648)), (10, .int (-2147483648)), (9, .int (-2147483648)), (8, .int (-2147483648)), (7, .int (-2147483648)), (6, .int (-2147483648)), (5, .int (nI 3)), (4, .int (nI (dfO g0 a a))), (3, .int (nI 2147483647)), (0, .ref (ad 70)), (1, .int (nI a)), (2, .int (nI b))] → W p l e rm_Lr s m args below meth c H locs 209 1254 Q (F0 m 577 ls []) := by
  intro g z H locs ls hs hP hD hS hl
  refine lv_aload_n C.hx C.hb dL_refuses_577 rfl (lv_at hl 13 rfl) ?_
  refine lv_iload C.hx C.hb dL_refuses_578 (lv_at hl 3 rfl) ?_
  refine lv_iconst (v := nI 0) C.hx C.hb dL_refuses_580 (by decide +kernel) ?_
  refine lv_iload C.hx C.hb dL_refuses_581 (lv_at hl 7 rfl) ?_
  refine lv_bipush (v := nI 99) C.hx C.hb dL_refuses_583 (by decide +kernel) ?_
  refine lv_iconst (v := nI 0) C.hx C.hb dL_refuses_585 (by decide +kernel) ?_
  refine q_cR (w := 10) (p0 := nI 0) (p1 := -2147483648) (p2 := nI 99) (p3 := nI 0) (r := -7000001) (c2 := 210) (s2 := 1260) C hs hP hD hS (rj_weight C.htr (notr (by decide +kernel) (by omega))) hl rfl (Nat.le_of_ble_eq_true rfl) ⟨Nat.le_of_ble_eq_true rfl, Nat.le_of_ble_eq_true rfl⟩ ⟨Nat.le_of_ble_eq_true rfl, Nat.le_of_ble_eq_true rfl⟩ ⟨Nat.le_of_ble_eq_true rfl, Nat.le_of_ble_eq_true rfl⟩ dL_refuses_586 (fun g z H locs hs hP hD hS => ?_)
  refine lv_ldc (v := -7000001) C.hx C.hb C.hown (C.hT.use kk_L_90 args) dL_refuses_589 ?_
  refine lv_icmp_ne (tgt := 634) C.hx C.hb dL_refuses_591 (by decide) (fun c9 => absurd c9 (by decide +kernel)) (fun _ => ?_)
  refine lv_aload_n C.hx C.hb dL_refuses_594 rfl (lv_at hl 13 rfl) ?_
  refine lv_iload C.hx C.hb dL_refuses_595 (lv_at hl 3 rfl) ?_
  refine lv_iload C.hx C.hb dL_refuses_597 (lv_at hl 7 rfl) ?_
  refine lv_iload C.hx C.hb dL_refuses_599 (lv_at hl 7 rfl) ?_
  refine lv_iconst (v := nI 0) C.hx C.hb dL_refuses_601 (by decide +kernel) ?_
  refine lv_iconst (v := nI 0) C.hx C.hb dL_refuses_602 (by decide +kernel) ?_
  refine q_cR (w := 10) (p0 := -2147483648) (p1 := -2147483648) (p2 := nI 0) (p3 := nI 0) (r := -7000001) (c2 := 211) (s2 := 1266) C hs hP hD hS (ri_weight C.htr (notr (by decide +kernel) (by omega))) hl rfl (Nat.le_of_ble_eq_true rfl) ⟨Nat.le_of_ble_eq_true rfl, Nat.le_of_ble_eq_true rfl⟩ ⟨Nat.le_of_ble_eq_true rfl, Nat.le_of_ble_eq_true rfl⟩ ⟨Nat.le_of_ble_eq_true rfl, Nat.le_of_ble_eq_true rfl⟩ dL_refuses_603 (fun g z H locs hs hP hD hS => ?_)
  refine lv_ldc (v := -7000001) C.hx C.hb C.hown (C.hT.use kk_L_90 args) dL_refuses_606 ?_
  refine lv_icmp_ne (tgt := 634) C.hx C.hb dL_refuses_608 (by decide) (fun c9 => absurd c9 (by decide +kernel)) (fun _ => ?_)
  refine lv_iload_n C.hx C.hb dL_refuses_611 rfl (lv_at hl 14 rfl) ?_
  refine lv_if_eq (tgt := 630) C.hx C.hb dL_refuses_612 (by decide) (fun c9 => ?_) (fun c9 => ?_)
  · refine W.widen (k := 212) (n := 1272) (Nat.le_of_ble_eq_true rfl) (Nat.le_of_ble_eq_true rfl) ?_
    exact kk g z H locs ls hs hP hD hS hl
  · have ha0 : 0 < a := Nat.pos_of_ne_zero (fun q => c9 (by rw [q]; rfl))
    have hb0 : 0 < b := hab ha0
    refine lv_aload_n C.hx C.hb dL_refuses_615 rfl (lv_at hl 13 rfl) ?_
    refine lv_iload C.hx C.hb dL_refuses_616 (lv_at hl 3 rfl) ?_
    refine lv_iconst (v := nI 0) C.hx C.hb dL_refuses_618 (by decide +kernel) ?_
    refine lv_iconst (v := nI 0) C.hx C.hb dL_refuses_619 (by decide +kernel) ?_
    refine lv_iconst (v := nI 0) C.hx C.hb dL_refuses_620 (by decide +kernel) ?_
    refine lv_iconst (v := nI 0) C.hx C.hb dL_refuses_621 (by decide +kernel) ?_
    refine q_cR (w := 10) (p0 := nI 0) (p1 := nI 0) (p2 := nI 0) (p3 := nI 0) (r := -7000002) (c2 := 212) (s2 := 1272) C hs hP hD hS (rs_weight C.htr (q_r_nI (by omega))) hl rfl (Nat.le_of_ble_eq_true rfl) ⟨Nat.le_of_ble_eq_true rfl, Nat.le_of_ble_eq_true rfl⟩ ⟨Nat.le_of_ble_eq_true rfl, Nat.le_of_ble_eq_true rfl⟩ ⟨Nat.le_of_ble_eq_true rfl, Nat.le_of_ble_eq_true rfl⟩ dL_refuses_622 (fun g z H locs hs hP hD hS => ?_)
    refine lv_ldc (v := -7000002) C.hx C.hb C.hown (C.hT.use kk_L_93 args) dL_refuses_625 ?_
    refine lv_icmp_ne (tgt := 634) C.hx C.hb dL_refuses_627 (by decide) (fun c9 => absurd c9 (by decide +kernel)) (fun _ => ?_)
    exact kk g z H locs ls hs hP hD hS hl

set_option maxRecDepth 100000 in
set_option maxHeartbeats 4000000 in
theorem tf_95 {p : Program} {l : Launch} {e : Env} {s : State} {m : MethodId} {args : Array Value} {below : List Frame} {meth : Method} {c : Code} {D : va_G} {cA : ClassId} {A : Nat → Prop} {ad : Nat → Nat} {Q : State → Prop} {g0 : Nat → Nat → Int32} {a t b : Nat} (ha : a ≤ 16) (hb9 : b ≤ 40) (hab : 0 < a → 0 < b) (C : lcx p l s m c cL_refuses 16 D cA A) (kk : ∀ (g : Nat → Nat → Int32) (z : Nat → Nat) (H : Heap) (locs : List Loc) (ls : Array Slot), SR g0 a t b g z → va_P D vwCl (rlW cA ad g z) H → va_D A (rlW cA ad g z) → va_S A s.heap H locs → lv_has ls 16 [(12, .int (nI 1)), (15, .int (nI 1)), (14, .int (nI 1)), (13, .int (nI 11)), (11, .int (-2147483648)), (10, .int (-2147483648)), (9, .int (-2147483648)), (8, .int (-2147483648)), (7, .int (-2147483648)), (6, .int (-2147483648)), (5, .int (nI 3)), (4, .int (nI (dfO g0 a a))), (3, .int (nI 2147483647)), (0, .ref (ad 70)), (1, .int (nI a)), (2, .int (nI b))] → W p l e rm_Lr s m args below meth c H locs 213 1278 Q (F0 m 577 ls [])) : ∀ (g : Nat → Nat → Int32) (z : Nat → Nat) (H : Heap) (locs : List Loc) (ls : Array Slot), SR g0 a t b g z → va_P D vwCl (rlW cA ad g z) H → va_D A (rlW cA ad g z) → va_S A s.heap H locs → lv_has ls 16 [(12, .int (nI 1)), (15, .int (nI 1)), (14, .int (nI 1)), (13, .int (nI 10)), (11, .int (-2147483648)), (10, .int (-2147483648)), (9, .int (-2147483648)), (8, .int (-2147483648)), (7, .int (-2147483648)), (6, .int (-2147483648)), (5, .int (nI 3)), (4, .int (nI (dfO g0 a a))), (3, .int (nI 2147483647)), (0, .ref (ad 70)), (1, .int (nI a)), (2, .int (nI b))] → W p l e rm_Lr s m args below meth c H locs 212 1272 Q (F0 m 630 ls []) := by
  intro g z H locs ls hs hP hD hS hl
  refine lv_iconst (v := nI 1) C.hx C.hb dL_refuses_630 (by decide +kernel) ?_
  refine lv_goto (tgt := 635) C.hx C.hb dL_refuses_631 (by decide) ?_
  refine lv_istore (lv' := [(12, .int (nI 1)), (15, .int (nI 1)), (14, .int (nI 1)), (13, .int (nI 10)), (11, .int (-2147483648)), (10, .int (-2147483648)), (9, .int (-2147483648)), (8, .int (-2147483648)), (7, .int (-2147483648)), (6, .int (-2147483648)), (5, .int (nI 3)), (4, .int (nI (dfO g0 a a))), (3, .int (nI 2147483647)), (0, .ref (ad 70)), (1, .int (nI a)), (2, .int (nI b))]) C.hx C.hb dL_refuses_635 hl (by decide) rfl (fun ls hl => ?_)
  refine lv_iload C.hx C.hb dL_refuses_637 (lv_at hl 3 rfl) ?_
  refine lv_bipush (v := nI 15) C.hx C.hb dL_refuses_639 (by decide +kernel) ?_
  refine lv_icmp_eq (tgt := 658) C.hx C.hb dL_refuses_641 (by decide) (fun c9 => absurd c9 (by decide +kernel)) (fun _ => ?_)
  refine lv_iload C.hx C.hb dL_refuses_644 (lv_at hl 3 rfl) ?_
  refine lv_bipush (v := nI 16) C.hx C.hb dL_refuses_646 (by decide +kernel) ?_
  refine lv_icmp_eq (tgt := 658) C.hx C.hb dL_refuses_648 (by decide) (fun c9 => absurd c9 (by decide +kernel)) (fun _ => ?_)
  refine lv_iload C.hx C.hb dL_refuses_651 (lv_at hl 3 rfl) ?_
  refine lv_bipush (v := nI 18) C.hx C.hb dL_refuses_653 (by decide +kernel) ?_
  refine lv_icmp_ne (tgt := 681) C.hx C.hb dL_refuses_655 (by decide) (fun _ => ?_) (fun c9 => absurd c9 (by decide +kernel))
  refine lv_iinc (v := nI 11) (lv' := [(13, .int (nI 11)), (12, .int (nI 1)), (15, .int (nI 1)), (14, .int (nI 1)), (11, .int (-2147483648)), (10, .int (-2147483648)), (9, .int (-2147483648)), (8, .int (-2147483648)), (7, .int (-2147483648)), (6, .int (-2147483648)), (5, .int (nI 3)), (4, .int (nI (dfO g0 a a))), (3, .int (nI 2147483647)), (0, .ref (ad 70)), (1, .int (nI a)), (2, .int (nI b))]) C.hx C.hb dL_refuses_681 hl (k := 3) rfl (by decide +kernel) (by decide) rfl (fun ls hl => ?_)
  refine lv_goto (tgt := 459) C.hx C.hb dL_refuses_684 (by decide) ?_
  refine lv_iload C.hx C.hb dL_refuses_459 (lv_at hl 0 rfl) ?_
  refine lv_bipush (v := nI 20) C.hx C.hb dL_refuses_461 (by decide +kernel) ?_
  refine lv_icmp_ge (tgt := 687) C.hx C.hb dL_refuses_463 (by decide) (fun c9 => absurd c9 (by decide +kernel)) (fun _ => ?_)
  refine lv_iload C.hx C.hb dL_refuses_466 (lv_at hl 1 rfl) ?_
  refine lv_if_eq (tgt := 687) C.hx C.hb dL_refuses_468 (by decide) (fun c9 => absurd c9 (by decide +kernel)) (fun _ => ?_)
  refine lv_iload C.hx C.hb dL_refuses_471 (lv_at hl 0 rfl) ?_
  refine lv_iconst (v := nI 4) C.hx C.hb dL_refuses_473 (by decide +kernel) ?_
  refine lv_icmp_lt (tgt := 497) C.hx C.hb dL_refuses_474 (by decide) (fun c9 => absurd c9 (by decide +kernel)) (fun _ => ?_)
  refine lv_iload C.hx C.hb dL_refuses_477 (lv_at hl 0 rfl) ?_
  refine lv_iconst (v := nI 5) C.hx C.hb dL_refuses_479 (by decide +kernel) ?_
  refine lv_icmp_le (tgt := 490) C.hx C.hb dL_refuses_480 (by decide) (fun c9 => absurd c9 (by decide +kernel)) (fun _ => ?_)
  refine lv_iload C.hx C.hb dL_refuses_483 (lv_at hl 0 rfl) ?_
  refine lv_bipush (v := nI 15) C.hx C.hb dL_refuses_485 (by decide +kernel) ?_
  refine lv_icmp_lt (tgt := 497) C.hx C.hb dL_refuses_487 (by decide) (fun _ => ?_) (fun c9 => absurd c9 (by decide +kernel))
  refine lv_iconst (v := nI 1) C.hx C.hb dL_refuses_497 (by decide +kernel) ?_
  refine lv_goto (tgt := 502) C.hx C.hb dL_refuses_498 (by decide) ?_
  refine lv_istore (lv' := [(14, .int (nI 1)), (13, .int (nI 11)), (12, .int (nI 1)), (15, .int (nI 1)), (11, .int (-2147483648)), (10, .int (-2147483648)), (9, .int (-2147483648)), (8, .int (-2147483648)), (7, .int (-2147483648)), (6, .int (-2147483648)), (5, .int (nI 3)), (4, .int (nI (dfO g0 a a))), (3, .int (nI 2147483647)), (0, .ref (ad 70)), (1, .int (nI a)), (2, .int (nI b))]) C.hx C.hb dL_refuses_502 hl (by decide) rfl (fun ls hl => ?_)
  refine lv_iload C.hx C.hb dL_refuses_504 (lv_at hl 1 rfl) ?_
  refine lv_iconst (v := nI 3) C.hx C.hb dL_refuses_506 (by decide +kernel) ?_
  refine lv_icmp_eq (tgt := 531) C.hx C.hb dL_refuses_507 (by decide) (fun c9 => absurd c9 (by decide +kernel)) (fun _ => ?_)
  refine lv_iload C.hx C.hb dL_refuses_510 (lv_at hl 1 rfl) ?_
  refine lv_bipush (v := nI 7) C.hx C.hb dL_refuses_512 (by decide +kernel) ?_
  refine lv_icmp_le (tgt := 524) C.hx C.hb dL_refuses_514 (by decide) (fun c9 => absurd c9 (by decide +kernel)) (fun _ => ?_)
  refine lv_iload C.hx C.hb dL_refuses_517 (lv_at hl 1 rfl) ?_
  refine lv_bipush (v := nI 13) C.hx C.hb dL_refuses_519 (by decide +kernel) ?_
  refine lv_icmp_lt (tgt := 531) C.hx C.hb dL_refuses_521 (by decide) (fun _ => ?_) (fun c9 => absurd c9 (by decide +kernel))
  refine lv_iconst (v := nI 1) C.hx C.hb dL_refuses_531 (by decide +kernel) ?_
  refine lv_goto (tgt := 536) C.hx C.hb dL_refuses_532 (by decide) ?_
  refine lv_istore (lv' := [(15, .int (nI 1)), (14, .int (nI 1)), (13, .int (nI 11)), (12, .int (nI 1)), (11, .int (-2147483648)), (10, .int (-2147483648)), (9, .int (-2147483648)), (8, .int (-2147483648)), (7, .int (-2147483648)), (6, .int (-2147483648)), (5, .int (nI 3)), (4, .int (nI (dfO g0 a a))), (3, .int (nI 2147483647)), (0, .ref (ad 70)), (1, .int (nI a)), (2, .int (nI b))]) C.hx C.hb dL_refuses_536 hl (by decide) rfl (fun ls hl => ?_)
  refine lv_iload C.hx C.hb dL_refuses_538 (lv_at hl 1 rfl) ?_
  refine lv_if_eq (tgt := 567) C.hx C.hb dL_refuses_540 (by decide) (fun c9 => absurd c9 (by decide +kernel)) (fun _ => ?_)
  refine lv_aload_n C.hx C.hb dL_refuses_543 rfl (lv_at hl 13 rfl) ?_
  refine lv_iload C.hx C.hb dL_refuses_544 (lv_at hl 2 rfl) ?_
  refine lv_iload C.hx C.hb dL_refuses_546 (lv_at hl 7 rfl) ?_
  refine lv_iconst (v := nI 0) C.hx C.hb dL_refuses_548 (by decide +kernel) ?_
  refine lv_bipush (v := nI 99) C.hx C.hb dL_refuses_549 (by decide +kernel) ?_
  refine lv_iconst (v := nI 0) C.hx C.hb dL_refuses_551 (by decide +kernel) ?_
  refine q_cR (w := 11) (p0 := -2147483648) (p1 := nI 0) (p2 := nI 99) (p3 := nI 0) (r := -7000001) (c2 := 213) (s2 := 1278) C hs hP hD hS (ri_whyNot C.htr (notr (by decide +kernel) (by omega))) hl rfl (Nat.le_of_ble_eq_true rfl) ⟨Nat.le_of_ble_eq_true rfl, Nat.le_of_ble_eq_true rfl⟩ ⟨Nat.le_of_ble_eq_true rfl, Nat.le_of_ble_eq_true rfl⟩ ⟨Nat.le_of_ble_eq_true rfl, Nat.le_of_ble_eq_true rfl⟩ dL_refuses_552 (fun g z H locs hs hP hD hS => ?_)
  refine lv_ldc (v := -7000001) C.hx C.hb C.hown (C.hT.use kk_L_90 args) dL_refuses_555 ?_
  refine lv_icmp_ne (tgt := 564) C.hx C.hb dL_refuses_557 (by decide) (fun c9 => absurd c9 (by decide +kernel)) (fun _ => ?_)
  refine lv_iconst (v := nI 1) C.hx C.hb dL_refuses_560 (by decide +kernel) ?_
  refine lv_goto (tgt := 565) C.hx C.hb dL_refuses_561 (by decide) ?_
  refine lv_istore (lv' := [(12, .int (nI 1)), (15, .int (nI 1)), (14, .int (nI 1)), (13, .int (nI 11)), (11, .int (-2147483648)), (10, .int (-2147483648)), (9, .int (-2147483648)), (8, .int (-2147483648)), (7, .int (-2147483648)), (6, .int (-2147483648)), (5, .int (nI 3)), (4, .int (nI (dfO g0 a a))), (3, .int (nI 2147483647)), (0, .ref (ad 70)), (1, .int (nI a)), (2, .int (nI b))]) C.hx C.hb dL_refuses_565 hl (by decide) rfl (fun ls hl => ?_)
  refine lv_iload C.hx C.hb dL_refuses_567 (lv_at hl 1 rfl) ?_
  refine lv_if_eq (tgt := 637) C.hx C.hb dL_refuses_569 (by decide) (fun c9 => absurd c9 (by decide +kernel)) (fun _ => ?_)
  refine lv_iload C.hx C.hb dL_refuses_572 (lv_at hl 0 rfl) ?_
  refine lv_if_eq (tgt := 634) C.hx C.hb dL_refuses_574 (by decide) (fun c9 => absurd c9 (by decide +kernel)) (fun _ => ?_)
  exact kk g z H locs ls hs hP hD hS hl

set_option maxRecDepth 100000 in
set_option maxHeartbeats 4000000 in
theorem tf_96 {p : Program} {l : Launch} {e : Env} {s : State} {m : MethodId} {args : Array Value} {below : List Frame} {meth : Method} {c : Code} {D : va_G} {cA : ClassId} {A : Nat → Prop} {ad : Nat → Nat} {Q : State → Prop} {g0 : Nat → Nat → Int32} {a t b : Nat} (ha : a ≤ 16) (hb9 : b ≤ 40) (hab : 0 < a → 0 < b) (C : lcx p l s m c cL_refuses 16 D cA A) (kk : ∀ (g : Nat → Nat → Int32) (z : Nat → Nat) (H : Heap) (locs : List Loc) (ls : Array Slot), SR g0 a t b g z → va_P D vwCl (rlW cA ad g z) H → va_D A (rlW cA ad g z) → va_S A s.heap H locs → lv_has ls 16 [(12, .int (nI 1)), (15, .int (nI 1)), (14, .int (nI 1)), (13, .int (nI 11)), (11, .int (-2147483648)), (10, .int (-2147483648)), (9, .int (-2147483648)), (8, .int (-2147483648)), (7, .int (-2147483648)), (6, .int (-2147483648)), (5, .int (nI 3)), (4, .int (nI (dfO g0 a a))), (3, .int (nI 2147483647)), (0, .ref (ad 70)), (1, .int (nI a)), (2, .int (nI b))] → W p l e rm_Lr s m args below meth c H locs 216 1296 Q (F0 m 630 ls [])) : ∀ (g : Nat → Nat → Int32) (z : Nat → Nat) (H : Heap) (locs : List Loc) (ls : Array Slot), SR g0 a t b g z → va_P D vwCl (rlW cA ad g z) H → va_D A (rlW cA ad g z) → va_S A s.heap H locs → lv_has ls 16 [(12, .int (nI 1)), (15, .int (nI 1)), (14, .int (nI 1)), (13, .int (nI 11)), (11, .int (-2147483648)), (10, .int (-2147483648)), (9, .int (-2147483648)), (8, .int (-2147483648)), (7, .int (-2147483648)), (6, .int (-2147483648)), (5, .int (nI 3)), (4, .int (nI (dfO g0 a a))), (3, .int (nI 2147483647)), (0, .ref (ad 70)), (1, .int (nI a)), (2, .int (nI b))] → W p l e rm_Lr s m args below meth c H locs 213 1278 Q (F0 m 577 ls []) := by
  intro g z H locs ls hs hP hD hS hl
  refine lv_aload_n C.hx C.hb dL_refuses_577 rfl (lv_at hl 13 rfl) ?_
  refine lv_iload C.hx C.hb dL_refuses_578 (lv_at hl 3 rfl) ?_
  refine lv_iconst (v := nI 0) C.hx C.hb dL_refuses_580 (by decide +kernel) ?_
  refine lv_iload C.hx C.hb dL_refuses_581 (lv_at hl 7 rfl) ?_
  refine lv_bipush (v := nI 99) C.hx C.hb dL_refuses_583 (by decide +kernel) ?_
  refine lv_iconst (v := nI 0) C.hx C.hb dL_refuses_585 (by decide +kernel) ?_
  refine q_cR (w := 11) (p0 := nI 0) (p1 := -2147483648) (p2 := nI 99) (p3 := nI 0) (r := -7000001) (c2 := 214) (s2 := 1284) C hs hP hD hS (rj_whyNot C.htr (notr (by decide +kernel) (by omega))) hl rfl (Nat.le_of_ble_eq_true rfl) ⟨Nat.le_of_ble_eq_true rfl, Nat.le_of_ble_eq_true rfl⟩ ⟨Nat.le_of_ble_eq_true rfl, Nat.le_of_ble_eq_true rfl⟩ ⟨Nat.le_of_ble_eq_true rfl, Nat.le_of_ble_eq_true rfl⟩ dL_refuses_586 (fun g z H locs hs hP hD hS => ?_)
  refine lv_ldc (v := -7000001) C.hx C.hb C.hown (C.hT.use kk_L_90 args) dL_refuses_589 ?_
  refine lv_icmp_ne (tgt := 634) C.hx C.hb dL_refuses_591 (by decide) (fun c9 => absurd c9 (by decide +kernel)) (fun _ => ?_)
  refine lv_aload_n C.hx C.hb dL_refuses_594 rfl (lv_at hl 13 rfl) ?_
  refine lv_iload C.hx C.hb dL_refuses_595 (lv_at hl 3 rfl) ?_
  refine lv_iload C.hx C.hb dL_refuses_597 (lv_at hl 7 rfl) ?_
  refine lv_iload C.hx C.hb dL_refuses_599 (lv_at hl 7 rfl) ?_
  refine lv_iconst (v := nI 0) C.hx C.hb dL_refuses_601 (by decide +kernel) ?_
  refine lv_iconst (v := nI 0) C.hx C.hb dL_refuses_602 (by decide +kernel) ?_
  refine q_cR (w := 11) (p0 := -2147483648) (p1 := -2147483648) (p2 := nI 0) (p3 := nI 0) (r := -7000001) (c2 := 215) (s2 := 1290) C hs hP hD hS (ri_whyNot C.htr (notr (by decide +kernel) (by omega))) hl rfl (Nat.le_of_ble_eq_true rfl) ⟨Nat.le_of_ble_eq_true rfl, Nat.le_of_ble_eq_true rfl⟩ ⟨Nat.le_of_ble_eq_true rfl, Nat.le_of_ble_eq_true rfl⟩ ⟨Nat.le_of_ble_eq_true rfl, Nat.le_of_ble_eq_true rfl⟩ dL_refuses_603 (fun g z H locs hs hP hD hS => ?_)
  refine lv_ldc (v := -7000001) C.hx C.hb C.hown (C.hT.use kk_L_90 args) dL_refuses_606 ?_
  refine lv_icmp_ne (tgt := 634) C.hx C.hb dL_refuses_608 (by decide) (fun c9 => absurd c9 (by decide +kernel)) (fun _ => ?_)
  refine lv_iload_n C.hx C.hb dL_refuses_611 rfl (lv_at hl 14 rfl) ?_
  refine lv_if_eq (tgt := 630) C.hx C.hb dL_refuses_612 (by decide) (fun c9 => ?_) (fun c9 => ?_)
  · refine W.widen (k := 216) (n := 1296) (Nat.le_of_ble_eq_true rfl) (Nat.le_of_ble_eq_true rfl) ?_
    exact kk g z H locs ls hs hP hD hS hl
  · have ha0 : 0 < a := Nat.pos_of_ne_zero (fun q => c9 (by rw [q]; rfl))
    have hb0 : 0 < b := hab ha0
    refine lv_aload_n C.hx C.hb dL_refuses_615 rfl (lv_at hl 13 rfl) ?_
    refine lv_iload C.hx C.hb dL_refuses_616 (lv_at hl 3 rfl) ?_
    refine lv_iconst (v := nI 0) C.hx C.hb dL_refuses_618 (by decide +kernel) ?_
    refine lv_iconst (v := nI 0) C.hx C.hb dL_refuses_619 (by decide +kernel) ?_
    refine lv_iconst (v := nI 0) C.hx C.hb dL_refuses_620 (by decide +kernel) ?_
    refine lv_iconst (v := nI 0) C.hx C.hb dL_refuses_621 (by decide +kernel) ?_
    refine q_cR (w := 11) (p0 := nI 0) (p1 := nI 0) (p2 := nI 0) (p3 := nI 0) (r := -7000002) (c2 := 216) (s2 := 1296) C hs hP hD hS (rs_whyNot C.htr (q_r_nI (by omega))) hl rfl (Nat.le_of_ble_eq_true rfl) ⟨Nat.le_of_ble_eq_true rfl, Nat.le_of_ble_eq_true rfl⟩ ⟨Nat.le_of_ble_eq_true rfl, Nat.le_of_ble_eq_true rfl⟩ ⟨Nat.le_of_ble_eq_true rfl, Nat.le_of_ble_eq_true rfl⟩ dL_refuses_622 (fun g z H locs hs hP hD hS => ?_)
    refine lv_ldc (v := -7000002) C.hx C.hb C.hown (C.hT.use kk_L_93 args) dL_refuses_625 ?_
    refine lv_icmp_ne (tgt := 634) C.hx C.hb dL_refuses_627 (by decide) (fun c9 => absurd c9 (by decide +kernel)) (fun _ => ?_)
    exact kk g z H locs ls hs hP hD hS hl

set_option maxRecDepth 100000 in
set_option maxHeartbeats 4000000 in
theorem tf_97 {p : Program} {l : Launch} {e : Env} {s : State} {m : MethodId} {args : Array Value} {below : List Frame} {meth : Method} {c : Code} {D : va_G} {cA : ClassId} {A : Nat → Prop} {ad : Nat → Nat} {Q : State → Prop} {g0 : Nat → Nat → Int32} {a t b : Nat} (ha : a ≤ 16) (hb9 : b ≤ 40) (hab : 0 < a → 0 < b) (C : lcx p l s m c cL_refuses 16 D cA A) (kk : ∀ (g : Nat → Nat → Int32) (z : Nat → Nat) (H : Heap) (locs : List Loc) (ls : Array Slot), SR g0 a t b g z → va_P D vwCl (rlW cA ad g z) H → va_D A (rlW cA ad g z) → va_S A s.heap H locs → lv_has ls 16 [(12, .int (nI 1)), (15, .int (nI 1)), (14, .int (nI 1)), (13, .int (nI 12)), (11, .int (-2147483648)), (10, .int (-2147483648)), (9, .int (-2147483648)), (8, .int (-2147483648)), (7, .int (-2147483648)), (6, .int (-2147483648)), (5, .int (nI 3)), (4, .int (nI (dfO g0 a a))), (3, .int (nI 2147483647)), (0, .ref (ad 70)), (1, .int (nI a)), (2, .int (nI b))] → W p l e rm_Lr s m args below meth c H locs 217 1302 Q (F0 m 577 ls [])) : ∀ (g : Nat → Nat → Int32) (z : Nat → Nat) (H : Heap) (locs : List Loc) (ls : Array Slot), SR g0 a t b g z → va_P D vwCl (rlW cA ad g z) H → va_D A (rlW cA ad g z) → va_S A s.heap H locs → lv_has ls 16 [(12, .int (nI 1)), (15, .int (nI 1)), (14, .int (nI 1)), (13, .int (nI 11)), (11, .int (-2147483648)), (10, .int (-2147483648)), (9, .int (-2147483648)), (8, .int (-2147483648)), (7, .int (-2147483648)), (6, .int (-2147483648)), (5, .int (nI 3)), (4, .int (nI (dfO g0 a a))), (3, .int (nI 2147483647)), (0, .ref (ad 70)), (1, .int (nI a)), (2, .int (nI b))] → W p l e rm_Lr s m args below meth c H locs 216 1296 Q (F0 m 630 ls []) := by
  intro g z H locs ls hs hP hD hS hl
  refine lv_iconst (v := nI 1) C.hx C.hb dL_refuses_630 (by decide +kernel) ?_
  refine lv_goto (tgt := 635) C.hx C.hb dL_refuses_631 (by decide) ?_
  refine lv_istore (lv' := [(12, .int (nI 1)), (15, .int (nI 1)), (14, .int (nI 1)), (13, .int (nI 11)), (11, .int (-2147483648)), (10, .int (-2147483648)), (9, .int (-2147483648)), (8, .int (-2147483648)), (7, .int (-2147483648)), (6, .int (-2147483648)), (5, .int (nI 3)), (4, .int (nI (dfO g0 a a))), (3, .int (nI 2147483647)), (0, .ref (ad 70)), (1, .int (nI a)), (2, .int (nI b))]) C.hx C.hb dL_refuses_635 hl (by decide) rfl (fun ls hl => ?_)
  refine lv_iload C.hx C.hb dL_refuses_637 (lv_at hl 3 rfl) ?_
  refine lv_bipush (v := nI 15) C.hx C.hb dL_refuses_639 (by decide +kernel) ?_
  refine lv_icmp_eq (tgt := 658) C.hx C.hb dL_refuses_641 (by decide) (fun c9 => absurd c9 (by decide +kernel)) (fun _ => ?_)
  refine lv_iload C.hx C.hb dL_refuses_644 (lv_at hl 3 rfl) ?_
  refine lv_bipush (v := nI 16) C.hx C.hb dL_refuses_646 (by decide +kernel) ?_
  refine lv_icmp_eq (tgt := 658) C.hx C.hb dL_refuses_648 (by decide) (fun c9 => absurd c9 (by decide +kernel)) (fun _ => ?_)
  refine lv_iload C.hx C.hb dL_refuses_651 (lv_at hl 3 rfl) ?_
  refine lv_bipush (v := nI 18) C.hx C.hb dL_refuses_653 (by decide +kernel) ?_
  refine lv_icmp_ne (tgt := 681) C.hx C.hb dL_refuses_655 (by decide) (fun _ => ?_) (fun c9 => absurd c9 (by decide +kernel))
  refine lv_iinc (v := nI 12) (lv' := [(13, .int (nI 12)), (12, .int (nI 1)), (15, .int (nI 1)), (14, .int (nI 1)), (11, .int (-2147483648)), (10, .int (-2147483648)), (9, .int (-2147483648)), (8, .int (-2147483648)), (7, .int (-2147483648)), (6, .int (-2147483648)), (5, .int (nI 3)), (4, .int (nI (dfO g0 a a))), (3, .int (nI 2147483647)), (0, .ref (ad 70)), (1, .int (nI a)), (2, .int (nI b))]) C.hx C.hb dL_refuses_681 hl (k := 3) rfl (by decide +kernel) (by decide) rfl (fun ls hl => ?_)
  refine lv_goto (tgt := 459) C.hx C.hb dL_refuses_684 (by decide) ?_
  refine lv_iload C.hx C.hb dL_refuses_459 (lv_at hl 0 rfl) ?_
  refine lv_bipush (v := nI 20) C.hx C.hb dL_refuses_461 (by decide +kernel) ?_
  refine lv_icmp_ge (tgt := 687) C.hx C.hb dL_refuses_463 (by decide) (fun c9 => absurd c9 (by decide +kernel)) (fun _ => ?_)
  refine lv_iload C.hx C.hb dL_refuses_466 (lv_at hl 1 rfl) ?_
  refine lv_if_eq (tgt := 687) C.hx C.hb dL_refuses_468 (by decide) (fun c9 => absurd c9 (by decide +kernel)) (fun _ => ?_)
  refine lv_iload C.hx C.hb dL_refuses_471 (lv_at hl 0 rfl) ?_
  refine lv_iconst (v := nI 4) C.hx C.hb dL_refuses_473 (by decide +kernel) ?_
  refine lv_icmp_lt (tgt := 497) C.hx C.hb dL_refuses_474 (by decide) (fun c9 => absurd c9 (by decide +kernel)) (fun _ => ?_)
  refine lv_iload C.hx C.hb dL_refuses_477 (lv_at hl 0 rfl) ?_
  refine lv_iconst (v := nI 5) C.hx C.hb dL_refuses_479 (by decide +kernel) ?_
  refine lv_icmp_le (tgt := 490) C.hx C.hb dL_refuses_480 (by decide) (fun c9 => absurd c9 (by decide +kernel)) (fun _ => ?_)
  refine lv_iload C.hx C.hb dL_refuses_483 (lv_at hl 0 rfl) ?_
  refine lv_bipush (v := nI 15) C.hx C.hb dL_refuses_485 (by decide +kernel) ?_
  refine lv_icmp_lt (tgt := 497) C.hx C.hb dL_refuses_487 (by decide) (fun _ => ?_) (fun c9 => absurd c9 (by decide +kernel))
  refine lv_iconst (v := nI 1) C.hx C.hb dL_refuses_497 (by decide +kernel) ?_
  refine lv_goto (tgt := 502) C.hx C.hb dL_refuses_498 (by decide) ?_
  refine lv_istore (lv' := [(14, .int (nI 1)), (13, .int (nI 12)), (12, .int (nI 1)), (15, .int (nI 1)), (11, .int (-2147483648)), (10, .int (-2147483648)), (9, .int (-2147483648)), (8, .int (-2147483648)), (7, .int (-2147483648)), (6, .int (-2147483648)), (5, .int (nI 3)), (4, .int (nI (dfO g0 a a))), (3, .int (nI 2147483647)), (0, .ref (ad 70)), (1, .int (nI a)), (2, .int (nI b))]) C.hx C.hb dL_refuses_502 hl (by decide) rfl (fun ls hl => ?_)
  refine lv_iload C.hx C.hb dL_refuses_504 (lv_at hl 1 rfl) ?_
  refine lv_iconst (v := nI 3) C.hx C.hb dL_refuses_506 (by decide +kernel) ?_
  refine lv_icmp_eq (tgt := 531) C.hx C.hb dL_refuses_507 (by decide) (fun c9 => absurd c9 (by decide +kernel)) (fun _ => ?_)
  refine lv_iload C.hx C.hb dL_refuses_510 (lv_at hl 1 rfl) ?_
  refine lv_bipush (v := nI 7) C.hx C.hb dL_refuses_512 (by decide +kernel) ?_
  refine lv_icmp_le (tgt := 524) C.hx C.hb dL_refuses_514 (by decide) (fun c9 => absurd c9 (by decide +kernel)) (fun _ => ?_)
  refine lv_iload C.hx C.hb dL_refuses_517 (lv_at hl 1 rfl) ?_
  refine lv_bipush (v := nI 13) C.hx C.hb dL_refuses_519 (by decide +kernel) ?_
  refine lv_icmp_lt (tgt := 531) C.hx C.hb dL_refuses_521 (by decide) (fun _ => ?_) (fun c9 => absurd c9 (by decide +kernel))
  refine lv_iconst (v := nI 1) C.hx C.hb dL_refuses_531 (by decide +kernel) ?_
  refine lv_goto (tgt := 536) C.hx C.hb dL_refuses_532 (by decide) ?_
  refine lv_istore (lv' := [(15, .int (nI 1)), (14, .int (nI 1)), (13, .int (nI 12)), (12, .int (nI 1)), (11, .int (-2147483648)), (10, .int (-2147483648)), (9, .int (-2147483648)), (8, .int (-2147483648)), (7, .int (-2147483648)), (6, .int (-2147483648)), (5, .int (nI 3)), (4, .int (nI (dfO g0 a a))), (3, .int (nI 2147483647)), (0, .ref (ad 70)), (1, .int (nI a)), (2, .int (nI b))]) C.hx C.hb dL_refuses_536 hl (by decide) rfl (fun ls hl => ?_)
  refine lv_iload C.hx C.hb dL_refuses_538 (lv_at hl 1 rfl) ?_
  refine lv_if_eq (tgt := 567) C.hx C.hb dL_refuses_540 (by decide) (fun c9 => absurd c9 (by decide +kernel)) (fun _ => ?_)
  refine lv_aload_n C.hx C.hb dL_refuses_543 rfl (lv_at hl 13 rfl) ?_
  refine lv_iload C.hx C.hb dL_refuses_544 (lv_at hl 2 rfl) ?_
  refine lv_iload C.hx C.hb dL_refuses_546 (lv_at hl 7 rfl) ?_
  refine lv_iconst (v := nI 0) C.hx C.hb dL_refuses_548 (by decide +kernel) ?_
  refine lv_bipush (v := nI 99) C.hx C.hb dL_refuses_549 (by decide +kernel) ?_
  refine lv_iconst (v := nI 0) C.hx C.hb dL_refuses_551 (by decide +kernel) ?_
  refine q_cR (w := 12) (p0 := -2147483648) (p1 := nI 0) (p2 := nI 99) (p3 := nI 0) (r := -7000001) (c2 := 217) (s2 := 1302) C hs hP hD hS (ri_join C.htr (notr (by decide +kernel) (by omega))) hl rfl (Nat.le_of_ble_eq_true rfl) ⟨Nat.le_of_ble_eq_true rfl, Nat.le_of_ble_eq_true rfl⟩ ⟨Nat.le_of_ble_eq_true rfl, Nat.le_of_ble_eq_true rfl⟩ ⟨Nat.le_of_ble_eq_true rfl, Nat.le_of_ble_eq_true rfl⟩ dL_refuses_552 (fun g z H locs hs hP hD hS => ?_)
  refine lv_ldc (v := -7000001) C.hx C.hb C.hown (C.hT.use kk_L_90 args) dL_refuses_555 ?_
  refine lv_icmp_ne (tgt := 564) C.hx C.hb dL_refuses_557 (by decide) (fun c9 => absurd c9 (by decide +kernel)) (fun _ => ?_)
  refine lv_iconst (v := nI 1) C.hx C.hb dL_refuses_560 (by decide +kernel) ?_
  refine lv_goto (tgt := 565) C.hx C.hb dL_refuses_561 (by decide) ?_
  refine lv_istore (lv' := [(12, .int (nI 1)), (15, .int (nI 1)), (14, .int (nI 1)), (13, .int (nI 12)), (11, .int (-2147483648)), (10, .int (-2147483648)), (9, .int (-2147483648)), (8, .int (-2147483648)), (7, .int (-2147483648)), (6, .int (-2147483648)), (5, .int (nI 3)), (4, .int (nI (dfO g0 a a))), (3, .int (nI 2147483647)), (0, .ref (ad 70)), (1, .int (nI a)), (2, .int (nI b))]) C.hx C.hb dL_refuses_565 hl (by decide) rfl (fun ls hl => ?_)
  refine lv_iload C.hx C.hb dL_refuses_567 (lv_at hl 1 rfl) ?_
  refine lv_if_eq (tgt := 637) C.hx C.hb dL_refuses_569 (by decide) (fun c9 => absurd c9 (by decide +kernel)) (fun _ => ?_)
  refine lv_iload C.hx C.hb dL_refuses_572 (lv_at hl 0 rfl) ?_
  refine lv_if_eq (tgt := 634) C.hx C.hb dL_refuses_574 (by decide) (fun c9 => absurd c9 (by decide +kernel)) (fun _ => ?_)
  exact kk g z H locs ls hs hP hD hS hl

set_option maxRecDepth 100000 in
set_option maxHeartbeats 4000000 in
theorem tf_98 {p : Program} {l : Launch} {e : Env} {s : State} {m : MethodId} {args : Array Value} {below : List Frame} {meth : Method} {c : Code} {D : va_G} {cA : ClassId} {A : Nat → Prop} {ad : Nat → Nat} {Q : State → Prop} {g0 : Nat → Nat → Int32} {a t b : Nat} (ha : a ≤ 16) (hb9 : b ≤ 40) (hab : 0 < a → 0 < b) (C : lcx p l s m c cL_refuses 16 D cA A) (kk : ∀ (g : Nat → Nat → Int32) (z : Nat → Nat) (H : Heap) (locs : List Loc) (ls : Array Slot), SR g0 a t b g z → va_P D vwCl (rlW cA ad g z) H → va_D A (rlW cA ad g z) → va_S A s.heap H locs → lv_has ls 16 [(12, .int (nI 1)), (15, .int (nI 1)), (14, .int (nI 1)), (13, .int (nI 12)), (11, .int (-2147483648)), (10, .int (-2147483648)), (9, .int (-2147483648)), (8, .int (-2147483648)), (7, .int (-2147483648)), (6, .int (-2147483648)), (5, .int (nI 3)), (4, .int (nI (dfO g0 a a))), (3, .int (nI 2147483647)), (0, .ref (ad 70)), (1, .int (nI a)), (2, .int (nI b))] → W p l e rm_Lr s m args below meth c H locs 220 1320 Q (F0 m 630 ls [])) : ∀ (g : Nat → Nat → Int32) (z : Nat → Nat) (H : Heap) (locs : List Loc) (ls : Array Slot), SR g0 a t b g z → va_P D vwCl (rlW cA ad g z) H → va_D A (rlW cA ad g z) → va_S A s.heap H locs → lv_has ls 16 [(12, .int (nI 1)), (15, .int (nI 1)), (14, .int (nI 1)), (13, .int (nI 12)), (11, .int (-2147483648)), (10, .int (-2147483648)), (9, .int (-2147483648)), (8, .int (-2147483648)), (7, .int (-2147483648)), (6, .int (-2147483648)), (5, .int (nI 3)), (4, .int (nI (dfO g0 a a))), (3, .int (nI 2147483647)), (0, .ref (ad 70)), (1, .int (nI a)), (2, .int (nI b))] → W p l e rm_Lr s m args below meth c H locs 217 1302 Q (F0 m 577 ls []) := by
  intro g z H locs ls hs hP hD hS hl
  refine lv_aload_n C.hx C.hb dL_refuses_577 rfl (lv_at hl 13 rfl) ?_
  refine lv_iload C.hx C.hb dL_refuses_578 (lv_at hl 3 rfl) ?_
  refine lv_iconst (v := nI 0) C.hx C.hb dL_refuses_580 (by decide +kernel) ?_
  refine lv_iload C.hx C.hb dL_refuses_581 (lv_at hl 7 rfl) ?_
  refine lv_bipush (v := nI 99) C.hx C.hb dL_refuses_583 (by decide +kernel) ?_
  refine lv_iconst (v := nI 0) C.hx C.hb dL_refuses_585 (by decide +kernel) ?_
  refine q_cR (w := 12) (p0 := nI 0) (p1 := -2147483648) (p2 := nI 99) (p3 := nI 0) (r := -7000001) (c2 := 218) (s2 := 1308) C hs hP hD hS (rj_join C.htr (notr (by decide +kernel) (by omega))) hl rfl (Nat.le_of_ble_eq_true rfl) ⟨Nat.le_of_ble_eq_true rfl, Nat.le_of_ble_eq_true rfl⟩ ⟨Nat.le_of_ble_eq_true rfl, Nat.le_of_ble_eq_true rfl⟩ ⟨Nat.le_of_ble_eq_true rfl, Nat.le_of_ble_eq_true rfl⟩ dL_refuses_586 (fun g z H locs hs hP hD hS => ?_)
  refine lv_ldc (v := -7000001) C.hx C.hb C.hown (C.hT.use kk_L_90 args) dL_refuses_589 ?_
  refine lv_icmp_ne (tgt := 634) C.hx C.hb dL_refuses_591 (by decide) (fun c9 => absurd c9 (by decide +kernel)) (fun _ => ?_)
  refine lv_aload_n C.hx C.hb dL_refuses_594 rfl (lv_at hl 13 rfl) ?_
  refine lv_iload C.hx C.hb dL_refuses_595 (lv_at hl 3 rfl) ?_
  refine lv_iload C.hx C.hb dL_refuses_597 (lv_at hl 7 rfl) ?_
  refine lv_iload C.hx C.hb dL_refuses_599 (lv_at hl 7 rfl) ?_
  refine lv_iconst (v := nI 0) C.hx C.hb dL_refuses_601 (by decide +kernel) ?_
  refine lv_iconst (v := nI 0) C.hx C.hb dL_refuses_602 (by decide +kernel) ?_
  refine q_cR (w := 12) (p0 := -2147483648) (p1 := -2147483648) (p2 := nI 0) (p3 := nI 0) (r := -7000001) (c2 := 219) (s2 := 1314) C hs hP hD hS (ri_join C.htr (notr (by decide +kernel) (by omega))) hl rfl (Nat.le_of_ble_eq_true rfl) ⟨Nat.le_of_ble_eq_true rfl, Nat.le_of_ble_eq_true rfl⟩ ⟨Nat.le_of_ble_eq_true rfl, Nat.le_of_ble_eq_true rfl⟩ ⟨Nat.le_of_ble_eq_true rfl, Nat.le_of_ble_eq_true rfl⟩ dL_refuses_603 (fun g z H locs hs hP hD hS => ?_)
  refine lv_ldc (v := -7000001) C.hx C.hb C.hown (C.hT.use kk_L_90 args) dL_refuses_606 ?_
  refine lv_icmp_ne (tgt := 634) C.hx C.hb dL_refuses_608 (by decide) (fun c9 => absurd c9 (by decide +kernel)) (fun _ => ?_)
  refine lv_iload_n C.hx C.hb dL_refuses_611 rfl (lv_at hl 14 rfl) ?_
  refine lv_if_eq (tgt := 630) C.hx C.hb dL_refuses_612 (by decide) (fun c9 => ?_) (fun c9 => ?_)
  · refine W.widen (k := 220) (n := 1320) (Nat.le_of_ble_eq_true rfl) (Nat.le_of_ble_eq_true rfl) ?_
    exact kk g z H locs ls hs hP hD hS hl
  · have ha0 : 0 < a := Nat.pos_of_ne_zero (fun q => c9 (by rw [q]; rfl))
    have hb0 : 0 < b := hab ha0
    refine lv_aload_n C.hx C.hb dL_refuses_615 rfl (lv_at hl 13 rfl) ?_
    refine lv_iload C.hx C.hb dL_refuses_616 (lv_at hl 3 rfl) ?_
    refine lv_iconst (v := nI 0) C.hx C.hb dL_refuses_618 (by decide +kernel) ?_
    refine lv_iconst (v := nI 0) C.hx C.hb dL_refuses_619 (by decide +kernel) ?_
    refine lv_iconst (v := nI 0) C.hx C.hb dL_refuses_620 (by decide +kernel) ?_
    refine lv_iconst (v := nI 0) C.hx C.hb dL_refuses_621 (by decide +kernel) ?_
    refine q_cR (w := 12) (p0 := nI 0) (p1 := nI 0) (p2 := nI 0) (p3 := nI 0) (r := -7000002) (c2 := 220) (s2 := 1320) C hs hP hD hS (rs_join C.htr (q_r_nI (by omega))) hl rfl (Nat.le_of_ble_eq_true rfl) ⟨Nat.le_of_ble_eq_true rfl, Nat.le_of_ble_eq_true rfl⟩ ⟨Nat.le_of_ble_eq_true rfl, Nat.le_of_ble_eq_true rfl⟩ ⟨Nat.le_of_ble_eq_true rfl, Nat.le_of_ble_eq_true rfl⟩ dL_refuses_622 (fun g z H locs hs hP hD hS => ?_)
    refine lv_ldc (v := -7000002) C.hx C.hb C.hown (C.hT.use kk_L_93 args) dL_refuses_625 ?_
    refine lv_icmp_ne (tgt := 634) C.hx C.hb dL_refuses_627 (by decide) (fun c9 => absurd c9 (by decide +kernel)) (fun _ => ?_)
    exact kk g z H locs ls hs hP hD hS hl

set_option maxRecDepth 100000 in
set_option maxHeartbeats 4000000 in
theorem tf_99 {p : Program} {l : Launch} {e : Env} {s : State} {m : MethodId} {args : Array Value} {below : List Frame} {meth : Method} {c : Code} {D : va_G} {cA : ClassId} {A : Nat → Prop} {ad : Nat → Nat} {Q : State → Prop} {g0 : Nat → Nat → Int32} {a t b : Nat} (ha : a ≤ 16) (hb9 : b ≤ 40) (hab : 0 < a → 0 < b) (C : lcx p l s m c cL_refuses 16 D cA A) (kk : ∀ (g : Nat → Nat → Int32) (z : Nat → Nat) (H : Heap) (locs : List Loc) (ls : Array Slot), SR g0 a t b g z → va_P D vwCl (rlW cA ad g z) H → va_D A (rlW cA ad g z) → va_S A s.heap H locs → lv_has ls 16 [(12, .int (nI 1)), (15, .int (nI 0)), (14, .int (nI 1)), (13, .int (nI 13)), (11, .int (-2147483648)), (10, .int (-2147483648)), (9, .int (-2147483648)), (8, .int (-2147483648)), (7, .int (-2147483648)), (6, .int (-2147483648)), (5, .int (nI 3)), (4, .int (nI (dfO g0 a a))), (3, .int (nI 2147483647)), (0, .ref (ad 70)), (1, .int (nI a)), (2, .int (nI b))] → W p l e rm_Lr s m args below meth c H locs 221 1326 Q (F0 m 637 ls [])) : ∀ (g : Nat → Nat → Int32) (z : Nat → Nat) (H : Heap) (locs : List Loc) (ls : Array Slot), SR g0 a t b g z → va_P D vwCl (rlW cA ad g z) H → va_D A (rlW cA ad g z) → va_S A s.heap H locs → lv_has ls 16 [(12, .int (nI 1)), (15, .int (nI 1)), (14, .int (nI 1)), (13, .int (nI 12)), (11, .int (-2147483648)), (10, .int (-2147483648)), (9, .int (-2147483648)), (8, .int (-2147483648)), (7, .int (-2147483648)), (6, .int (-2147483648)), (5, .int (nI 3)), (4, .int (nI (dfO g0 a a))), (3, .int (nI 2147483647)), (0, .ref (ad 70)), (1, .int (nI a)), (2, .int (nI b))] → W p l e rm_Lr s m args below meth c H locs 220 1320 Q (F0 m 630 ls []) := by
  intro g z H locs ls hs hP hD hS hl
  refine lv_iconst (v := nI 1) C.hx C.hb dL_refuses_630 (by decide +kernel) ?_
  refine lv_goto (tgt := 635) C.hx C.hb dL_refuses_631 (by decide) ?_
  refine lv_istore (lv' := [(12, .int (nI 1)), (15, .int (nI 1)), (14, .int (nI 1)), (13, .int (nI 12)), (11, .int (-2147483648)), (10, .int (-2147483648)), (9, .int (-2147483648)), (8, .int (-2147483648)), (7, .int (-2147483648)), (6, .int (-2147483648)), (5, .int (nI 3)), (4, .int (nI (dfO g0 a a))), (3, .int (nI 2147483647)), (0, .ref (ad 70)), (1, .int (nI a)), (2, .int (nI b))]) C.hx C.hb dL_refuses_635 hl (by decide) rfl (fun ls hl => ?_)
  refine lv_iload C.hx C.hb dL_refuses_637 (lv_at hl 3 rfl) ?_
  refine lv_bipush (v := nI 15) C.hx C.hb dL_refuses_639 (by decide +kernel) ?_
  refine lv_icmp_eq (tgt := 658) C.hx C.hb dL_refuses_641 (by decide) (fun c9 => absurd c9 (by decide +kernel)) (fun _ => ?_)
  refine lv_iload C.hx C.hb dL_refuses_644 (lv_at hl 3 rfl) ?_
  refine lv_bipush (v := nI 16) C.hx C.hb dL_refuses_646 (by decide +kernel) ?_
  refine lv_icmp_eq (tgt := 658) C.hx C.hb dL_refuses_648 (by decide) (fun c9 => absurd c9 (by decide +kernel)) (fun _ => ?_)
  refine lv_iload C.hx C.hb dL_refuses_651 (lv_at hl 3 rfl) ?_
  refine lv_bipush (v := nI 18) C.hx C.hb dL_refuses_653 (by decide +kernel) ?_
  refine lv_icmp_ne (tgt := 681) C.hx C.hb dL_refuses_655 (by decide) (fun _ => ?_) (fun c9 => absurd c9 (by decide +kernel))
  refine lv_iinc (v := nI 13) (lv' := [(13, .int (nI 13)), (12, .int (nI 1)), (15, .int (nI 1)), (14, .int (nI 1)), (11, .int (-2147483648)), (10, .int (-2147483648)), (9, .int (-2147483648)), (8, .int (-2147483648)), (7, .int (-2147483648)), (6, .int (-2147483648)), (5, .int (nI 3)), (4, .int (nI (dfO g0 a a))), (3, .int (nI 2147483647)), (0, .ref (ad 70)), (1, .int (nI a)), (2, .int (nI b))]) C.hx C.hb dL_refuses_681 hl (k := 3) rfl (by decide +kernel) (by decide) rfl (fun ls hl => ?_)
  refine lv_goto (tgt := 459) C.hx C.hb dL_refuses_684 (by decide) ?_
  refine lv_iload C.hx C.hb dL_refuses_459 (lv_at hl 0 rfl) ?_
  refine lv_bipush (v := nI 20) C.hx C.hb dL_refuses_461 (by decide +kernel) ?_
  refine lv_icmp_ge (tgt := 687) C.hx C.hb dL_refuses_463 (by decide) (fun c9 => absurd c9 (by decide +kernel)) (fun _ => ?_)
  refine lv_iload C.hx C.hb dL_refuses_466 (lv_at hl 1 rfl) ?_
  refine lv_if_eq (tgt := 687) C.hx C.hb dL_refuses_468 (by decide) (fun c9 => absurd c9 (by decide +kernel)) (fun _ => ?_)
  refine lv_iload C.hx C.hb dL_refuses_471 (lv_at hl 0 rfl) ?_
  refine lv_iconst (v := nI 4) C.hx C.hb dL_refuses_473 (by decide +kernel) ?_
  refine lv_icmp_lt (tgt := 497) C.hx C.hb dL_refuses_474 (by decide) (fun c9 => absurd c9 (by decide +kernel)) (fun _ => ?_)
  refine lv_iload C.hx C.hb dL_refuses_477 (lv_at hl 0 rfl) ?_
  refine lv_iconst (v := nI 5) C.hx C.hb dL_refuses_479 (by decide +kernel) ?_
  refine lv_icmp_le (tgt := 490) C.hx C.hb dL_refuses_480 (by decide) (fun c9 => absurd c9 (by decide +kernel)) (fun _ => ?_)
  refine lv_iload C.hx C.hb dL_refuses_483 (lv_at hl 0 rfl) ?_
  refine lv_bipush (v := nI 15) C.hx C.hb dL_refuses_485 (by decide +kernel) ?_
  refine lv_icmp_lt (tgt := 497) C.hx C.hb dL_refuses_487 (by decide) (fun _ => ?_) (fun c9 => absurd c9 (by decide +kernel))
  refine lv_iconst (v := nI 1) C.hx C.hb dL_refuses_497 (by decide +kernel) ?_
  refine lv_goto (tgt := 502) C.hx C.hb dL_refuses_498 (by decide) ?_
  refine lv_istore (lv' := [(14, .int (nI 1)), (13, .int (nI 13)), (12, .int (nI 1)), (15, .int (nI 1)), (11, .int (-2147483648)), (10, .int (-2147483648)), (9, .int (-2147483648)), (8, .int (-2147483648)), (7, .int (-2147483648)), (6, .int (-2147483648)), (5, .int (nI 3)), (4, .int (nI (dfO g0 a a))), (3, .int (nI 2147483647)), (0, .ref (ad 70)), (1, .int (nI a)), (2, .int (nI b))]) C.hx C.hb dL_refuses_502 hl (by decide) rfl (fun ls hl => ?_)
  refine lv_iload C.hx C.hb dL_refuses_504 (lv_at hl 1 rfl) ?_
  refine lv_iconst (v := nI 3) C.hx C.hb dL_refuses_506 (by decide +kernel) ?_
  refine lv_icmp_eq (tgt := 531) C.hx C.hb dL_refuses_507 (by decide) (fun c9 => absurd c9 (by decide +kernel)) (fun _ => ?_)
  refine lv_iload C.hx C.hb dL_refuses_510 (lv_at hl 1 rfl) ?_
  refine lv_bipush (v := nI 7) C.hx C.hb dL_refuses_512 (by decide +kernel) ?_
  refine lv_icmp_le (tgt := 524) C.hx C.hb dL_refuses_514 (by decide) (fun c9 => absurd c9 (by decide +kernel)) (fun _ => ?_)
  refine lv_iload C.hx C.hb dL_refuses_517 (lv_at hl 1 rfl) ?_
  refine lv_bipush (v := nI 13) C.hx C.hb dL_refuses_519 (by decide +kernel) ?_
  refine lv_icmp_lt (tgt := 531) C.hx C.hb dL_refuses_521 (by decide) (fun c9 => absurd c9 (by decide +kernel)) (fun _ => ?_)
  refine lv_iload C.hx C.hb dL_refuses_524 (lv_at hl 1 rfl) ?_
  refine lv_bipush (v := nI 19) C.hx C.hb dL_refuses_526 (by decide +kernel) ?_
  refine lv_icmp_ne (tgt := 535) C.hx C.hb dL_refuses_528 (by decide) (fun _ => ?_) (fun c9 => absurd c9 (by decide +kernel))
  refine lv_iconst (v := nI 0) C.hx C.hb dL_refuses_535 (by decide +kernel) ?_
  refine lv_istore (lv' := [(15, .int (nI 0)), (14, .int (nI 1)), (13, .int (nI 13)), (12, .int (nI 1)), (11, .int (-2147483648)), (10, .int (-2147483648)), (9, .int (-2147483648)), (8, .int (-2147483648)), (7, .int (-2147483648)), (6, .int (-2147483648)), (5, .int (nI 3)), (4, .int (nI (dfO g0 a a))), (3, .int (nI 2147483647)), (0, .ref (ad 70)), (1, .int (nI a)), (2, .int (nI b))]) C.hx C.hb dL_refuses_536 hl (by decide) rfl (fun ls hl => ?_)
  refine lv_iload C.hx C.hb dL_refuses_538 (lv_at hl 1 rfl) ?_
  refine lv_if_eq (tgt := 567) C.hx C.hb dL_refuses_540 (by decide) (fun c9 => absurd c9 (by decide +kernel)) (fun _ => ?_)
  refine lv_aload_n C.hx C.hb dL_refuses_543 rfl (lv_at hl 13 rfl) ?_
  refine lv_iload C.hx C.hb dL_refuses_544 (lv_at hl 2 rfl) ?_
  refine lv_iload C.hx C.hb dL_refuses_546 (lv_at hl 7 rfl) ?_
  refine lv_iconst (v := nI 0) C.hx C.hb dL_refuses_548 (by decide +kernel) ?_
  refine lv_bipush (v := nI 99) C.hx C.hb dL_refuses_549 (by decide +kernel) ?_
  refine lv_iconst (v := nI 0) C.hx C.hb dL_refuses_551 (by decide +kernel) ?_
  refine q_cR (w := 13) (p0 := -2147483648) (p1 := nI 0) (p2 := nI 99) (p3 := nI 0) (r := -7000001) (c2 := 221) (s2 := 1326) C hs hP hD hS (ri_split C.htr (notr (by decide +kernel) (by omega))) hl rfl (Nat.le_of_ble_eq_true rfl) ⟨Nat.le_of_ble_eq_true rfl, Nat.le_of_ble_eq_true rfl⟩ ⟨Nat.le_of_ble_eq_true rfl, Nat.le_of_ble_eq_true rfl⟩ ⟨Nat.le_of_ble_eq_true rfl, Nat.le_of_ble_eq_true rfl⟩ dL_refuses_552 (fun g z H locs hs hP hD hS => ?_)
  refine lv_ldc (v := -7000001) C.hx C.hb C.hown (C.hT.use kk_L_90 args) dL_refuses_555 ?_
  refine lv_icmp_ne (tgt := 564) C.hx C.hb dL_refuses_557 (by decide) (fun c9 => absurd c9 (by decide +kernel)) (fun _ => ?_)
  refine lv_iconst (v := nI 1) C.hx C.hb dL_refuses_560 (by decide +kernel) ?_
  refine lv_goto (tgt := 565) C.hx C.hb dL_refuses_561 (by decide) ?_
  refine lv_istore (lv' := [(12, .int (nI 1)), (15, .int (nI 0)), (14, .int (nI 1)), (13, .int (nI 13)), (11, .int (-2147483648)), (10, .int (-2147483648)), (9, .int (-2147483648)), (8, .int (-2147483648)), (7, .int (-2147483648)), (6, .int (-2147483648)), (5, .int (nI 3)), (4, .int (nI (dfO g0 a a))), (3, .int (nI 2147483647)), (0, .ref (ad 70)), (1, .int (nI a)), (2, .int (nI b))]) C.hx C.hb dL_refuses_565 hl (by decide) rfl (fun ls hl => ?_)
  refine lv_iload C.hx C.hb dL_refuses_567 (lv_at hl 1 rfl) ?_
  refine lv_if_eq (tgt := 637) C.hx C.hb dL_refuses_569 (by decide) (fun _ => ?_) (fun c9 => absurd c9 (by decide +kernel))
  exact kk g z H locs ls hs hP hD hS hl

set_option maxRecDepth 100000 in
set_option maxHeartbeats 4000000 in
theorem tf_100 {p : Program} {l : Launch} {e : Env} {s : State} {m : MethodId} {args : Array Value} {below : List Frame} {meth : Method} {c : Code} {D : va_G} {cA : ClassId} {A : Nat → Prop} {ad : Nat → Nat} {Q : State → Prop} {g0 : Nat → Nat → Int32} {a t b : Nat} (ha : a ≤ 16) (hb9 : b ≤ 40) (hab : 0 < a → 0 < b) (C : lcx p l s m c cL_refuses 16 D cA A) (kk : ∀ (g : Nat → Nat → Int32) (z : Nat → Nat) (H : Heap) (locs : List Loc) (ls : Array Slot), SR g0 a t b g z → va_P D vwCl (rlW cA ad g z) H → va_D A (rlW cA ad g z) → va_S A s.heap H locs → lv_has ls 16 [(12, .int (nI 1)), (15, .int (nI 0)), (14, .int (nI 1)), (13, .int (nI 14)), (11, .int (-2147483648)), (10, .int (-2147483648)), (9, .int (-2147483648)), (8, .int (-2147483648)), (7, .int (-2147483648)), (6, .int (-2147483648)), (5, .int (nI 3)), (4, .int (nI (dfO g0 a a))), (3, .int (nI 2147483647)), (0, .ref (ad 70)), (1, .int (nI a)), (2, .int (nI b))] → W p l e rm_Lr s m args below meth c H locs 222 1332 Q (F0 m 644 ls [])) : ∀ (g : Nat → Nat → Int32) (z : Nat → Nat) (H : Heap) (locs : List Loc) (ls : Array Slot), SR g0 a t b g z → va_P D vwCl (rlW cA ad g z) H → va_D A (rlW cA ad g z) → va_S A s.heap H locs → lv_has ls 16 [(12, .int (nI 1)), (15, .int (nI 0)), (14, .int (nI 1)), (13, .int (nI 13)), (11, .int (-2147483648)), (10, .int (-2147483648)), (9, .int (-2147483648)), (8, .int (-2147483648)), (7, .int (-2147483648)), (6, .int (-2147483648)), (5, .int (nI 3)), (4, .int (nI (dfO g0 a a))), (3, .int (nI 2147483647)), (0, .ref (ad 70)), (1, .int (nI a)), (2, .int (nI b))] → W p l e rm_Lr s m args below meth c H locs 221 1326 Q (F0 m 637 ls []) := by
  intro g z H locs ls hs hP hD hS hl
  refine lv_iload C.hx C.hb dL_refuses_637 (lv_at hl 3 rfl) ?_
  refine lv_bipush (v := nI 15) C.hx C.hb dL_refuses_639 (by decide +kernel) ?_
  refine lv_icmp_eq (tgt := 658) C.hx C.hb dL_refuses_641 (by decide) (fun c9 => absurd c9 (by decide +kernel)) (fun _ => ?_)
  refine lv_iload C.hx C.hb dL_refuses_644 (lv_at hl 3 rfl) ?_
  refine lv_bipush (v := nI 16) C.hx C.hb dL_refuses_646 (by decide +kernel) ?_
  refine lv_icmp_eq (tgt := 658) C.hx C.hb dL_refuses_648 (by decide) (fun c9 => absurd c9 (by decide +kernel)) (fun _ => ?_)
  refine lv_iload C.hx C.hb dL_refuses_651 (lv_at hl 3 rfl) ?_
  refine lv_bipush (v := nI 18) C.hx C.hb dL_refuses_653 (by decide +kernel) ?_
  refine lv_icmp_ne (tgt := 681) C.hx C.hb dL_refuses_655 (by decide) (fun _ => ?_) (fun c9 => absurd c9 (by decide +kernel))
  refine lv_iinc (v := nI 14) (lv' := [(13, .int (nI 14)), (12, .int (nI 1)), (15, .int (nI 0)), (14, .int (nI 1)), (11, .int (-2147483648)), (10, .int (-2147483648)), (9, .int (-2147483648)), (8, .int (-2147483648)), (7, .int (-2147483648)), (6, .int (-2147483648)), (5, .int (nI 3)), (4, .int (nI (dfO g0 a a))), (3, .int (nI 2147483647)), (0, .ref (ad 70)), (1, .int (nI a)), (2, .int (nI b))]) C.hx C.hb dL_refuses_681 hl (k := 3) rfl (by decide +kernel) (by decide) rfl (fun ls hl => ?_)
  refine lv_goto (tgt := 459) C.hx C.hb dL_refuses_684 (by decide) ?_
  refine lv_iload C.hx C.hb dL_refuses_459 (lv_at hl 0 rfl) ?_
  refine lv_bipush (v := nI 20) C.hx C.hb dL_refuses_461 (by decide +kernel) ?_
  refine lv_icmp_ge (tgt := 687) C.hx C.hb dL_refuses_463 (by decide) (fun c9 => absurd c9 (by decide +kernel)) (fun _ => ?_)
  refine lv_iload C.hx C.hb dL_refuses_466 (lv_at hl 1 rfl) ?_
  refine lv_if_eq (tgt := 687) C.hx C.hb dL_refuses_468 (by decide) (fun c9 => absurd c9 (by decide +kernel)) (fun _ => ?_)
  refine lv_iload C.hx C.hb dL_refuses_471 (lv_at hl 0 rfl) ?_
  refine lv_iconst (v := nI 4) C.hx C.hb dL_refuses_473 (by decide +kernel) ?_
  refine lv_icmp_lt (tgt := 497) C.hx C.hb dL_refuses_474 (by decide) (fun c9 => absurd c9 (by decide +kernel)) (fun _ => ?_)
  refine lv_iload C.hx C.hb dL_refuses_477 (lv_at hl 0 rfl) ?_
  refine lv_iconst (v := nI 5) C.hx C.hb dL_refuses_479 (by decide +kernel) ?_
  refine lv_icmp_le (tgt := 490) C.hx C.hb dL_refuses_480 (by decide) (fun c9 => absurd c9 (by decide +kernel)) (fun _ => ?_)
  refine lv_iload C.hx C.hb dL_refuses_483 (lv_at hl 0 rfl) ?_
  refine lv_bipush (v := nI 15) C.hx C.hb dL_refuses_485 (by decide +kernel) ?_
  refine lv_icmp_lt (tgt := 497) C.hx C.hb dL_refuses_487 (by decide) (fun _ => ?_) (fun c9 => absurd c9 (by decide +kernel))
  refine lv_iconst (v := nI 1) C.hx C.hb dL_refuses_497 (by decide +kernel) ?_
  refine lv_goto (tgt := 502) C.hx C.hb dL_refuses_498 (by decide) ?_
  refine lv_istore (lv' := [(14, .int (nI 1)), (13, .int (nI 14)), (12, .int (nI 1)), (15, .int (nI 0)), (11, .int (-2147483648)), (10, .int (-2147483648)), (9, .int (-2147483648)), (8, .int (-2147483648)), (7, .int (-2147483648)), (6, .int (-2147483648)), (5, .int (nI 3)), (4, .int (nI (dfO g0 a a))), (3, .int (nI 2147483647)), (0, .ref (ad 70)), (1, .int (nI a)), (2, .int (nI b))]) C.hx C.hb dL_refuses_502 hl (by decide) rfl (fun ls hl => ?_)
  refine lv_iload C.hx C.hb dL_refuses_504 (lv_at hl 1 rfl) ?_
  refine lv_iconst (v := nI 3) C.hx C.hb dL_refuses_506 (by decide +kernel) ?_
  refine lv_icmp_eq (tgt := 531) C.hx C.hb dL_refuses_507 (by decide) (fun c9 => absurd c9 (by decide +kernel)) (fun _ => ?_)
  refine lv_iload C.hx C.hb dL_refuses_510 (lv_at hl 1 rfl) ?_
  refine lv_bipush (v := nI 7) C.hx C.hb dL_refuses_512 (by decide +kernel) ?_
  refine lv_icmp_le (tgt := 524) C.hx C.hb dL_refuses_514 (by decide) (fun c9 => absurd c9 (by decide +kernel)) (fun _ => ?_)
  refine lv_iload C.hx C.hb dL_refuses_517 (lv_at hl 1 rfl) ?_
  refine lv_bipush (v := nI 13) C.hx C.hb dL_refuses_519 (by decide +kernel) ?_
  refine lv_icmp_lt (tgt := 531) C.hx C.hb dL_refuses_521 (by decide) (fun c9 => absurd c9 (by decide +kernel)) (fun _ => ?_)
  refine lv_iload C.hx C.hb dL_refuses_524 (lv_at hl 1 rfl) ?_
  refine lv_bipush (v := nI 19) C.hx C.hb dL_refuses_526 (by decide +kernel) ?_
  refine lv_icmp_ne (tgt := 535) C.hx C.hb dL_refuses_528 (by decide) (fun _ => ?_) (fun c9 => absurd c9 (by decide +kernel))
  refine lv_iconst (v := nI 0) C.hx C.hb dL_refuses_535 (by decide +kernel) ?_
  refine lv_istore (lv' := [(15, .int (nI 0)), (14, .int (nI 1)), (13, .int (nI 14)), (12, .int (nI 1)), (11, .int (-2147483648)), (10, .int (-2147483648)), (9, .int (-2147483648)), (8, .int (-2147483648)), (7, .int (-2147483648)), (6, .int (-2147483648)), (5, .int (nI 3)), (4, .int (nI (dfO g0 a a))), (3, .int (nI 2147483647)), (0, .ref (ad 70)), (1, .int (nI a)), (2, .int (nI b))]) C.hx C.hb dL_refuses_536 hl (by decide) rfl (fun ls hl => ?_)
  refine lv_iload C.hx C.hb dL_refuses_538 (lv_at hl 1 rfl) ?_
  refine lv_if_eq (tgt := 567) C.hx C.hb dL_refuses_540 (by decide) (fun c9 => absurd c9 (by decide +kernel)) (fun _ => ?_)
  refine lv_aload_n C.hx C.hb dL_refuses_543 rfl (lv_at hl 13 rfl) ?_
  refine lv_iload C.hx C.hb dL_refuses_544 (lv_at hl 2 rfl) ?_
  refine lv_iload C.hx C.hb dL_refuses_546 (lv_at hl 7 rfl) ?_
  refine lv_iconst (v := nI 0) C.hx C.hb dL_refuses_548 (by decide +kernel) ?_
  refine lv_bipush (v := nI 99) C.hx C.hb dL_refuses_549 (by decide +kernel) ?_
  refine lv_iconst (v := nI 0) C.hx C.hb dL_refuses_551 (by decide +kernel) ?_
  refine q_cR (w := 14) (p0 := -2147483648) (p1 := nI 0) (p2 := nI 99) (p3 := nI 0) (r := -7000001) (c2 := 222) (s2 := 1332) C hs hP hD hS (ri_person C.htr (notr (by decide +kernel) (by omega))) hl rfl (Nat.le_of_ble_eq_true rfl) ⟨Nat.le_of_ble_eq_true rfl, Nat.le_of_ble_eq_true rfl⟩ ⟨Nat.le_of_ble_eq_true rfl, Nat.le_of_ble_eq_true rfl⟩ ⟨Nat.le_of_ble_eq_true rfl, Nat.le_of_ble_eq_true rfl⟩ dL_refuses_552 (fun g z H locs hs hP hD hS => ?_)
  refine lv_ldc (v := -7000001) C.hx C.hb C.hown (C.hT.use kk_L_90 args) dL_refuses_555 ?_
  refine lv_icmp_ne (tgt := 564) C.hx C.hb dL_refuses_557 (by decide) (fun c9 => absurd c9 (by decide +kernel)) (fun _ => ?_)
  refine lv_iconst (v := nI 1) C.hx C.hb dL_refuses_560 (by decide +kernel) ?_
  refine lv_goto (tgt := 565) C.hx C.hb dL_refuses_561 (by decide) ?_
  refine lv_istore (lv' := [(12, .int (nI 1)), (15, .int (nI 0)), (14, .int (nI 1)), (13, .int (nI 14)), (11, .int (-2147483648)), (10, .int (-2147483648)), (9, .int (-2147483648)), (8, .int (-2147483648)), (7, .int (-2147483648)), (6, .int (-2147483648)), (5, .int (nI 3)), (4, .int (nI (dfO g0 a a))), (3, .int (nI 2147483647)), (0, .ref (ad 70)), (1, .int (nI a)), (2, .int (nI b))]) C.hx C.hb dL_refuses_565 hl (by decide) rfl (fun ls hl => ?_)
  refine lv_iload C.hx C.hb dL_refuses_567 (lv_at hl 1 rfl) ?_
  refine lv_if_eq (tgt := 637) C.hx C.hb dL_refuses_569 (by decide) (fun _ => ?_) (fun c9 => absurd c9 (by decide +kernel))
  refine lv_iload C.hx C.hb dL_refuses_637 (lv_at hl 3 rfl) ?_
  refine lv_bipush (v := nI 15) C.hx C.hb dL_refuses_639 (by decide +kernel) ?_
  refine lv_icmp_eq (tgt := 658) C.hx C.hb dL_refuses_641 (by decide) (fun c9 => absurd c9 (by decide +kernel)) (fun _ => ?_)
  exact kk g z H locs ls hs hP hD hS hl

set_option maxRecDepth 100000 in
set_option maxHeartbeats 4000000 in
theorem tf_101 {p : Program} {l : Launch} {e : Env} {s : State} {m : MethodId} {args : Array Value} {below : List Frame} {meth : Method} {c : Code} {D : va_G} {cA : ClassId} {A : Nat → Prop} {ad : Nat → Nat} {Q : State → Prop} {g0 : Nat → Nat → Int32} {a t b : Nat} (ha : a ≤ 16) (hb9 : b ≤ 40) (hab : 0 < a → 0 < b) (C : lcx p l s m c cL_refuses 16 D cA A) (kk : ∀ (g : Nat → Nat → Int32) (z : Nat → Nat) (H : Heap) (locs : List Loc) (ls : Array Slot), SR g0 a t b g z → va_P D vwCl (rlW cA ad g z) H → va_D A (rlW cA ad g z) → va_S A s.heap H locs → lv_has ls 16 [(13, .int (nI 16)), (12, .int (nI 1)), (15, .int (nI 0)), (14, .int (nI 0)), (11, .int (-2147483648)), (10, .int (-2147483648)), (9, .int (-2147483648)), (8, .int (-2147483648)), (7, .int (-2147483648)), (6, .int (-2147483648)), (5, .int (nI 3)), (4, .int (nI (dfO g0 a a))), (3, .int (nI 2147483647)), (0, .ref (ad 70)), (1, .int (nI a)), (2, .int (nI b))] → W p l e rm_Lr s m args below meth c H locs 223 1338 Q (F0 m 684 ls [])) : ∀ (g : Nat → Nat → Int32) (z : Nat → Nat) (H : Heap) (locs : List Loc) (ls : Array Slot), SR g0 a t b g z → va_P D vwCl (rlW cA ad g z) H → va_D A (rlW cA ad g z) → va_S A s.heap H locs → lv_has ls 16 [(12, .int (nI 1)), (15, .int (nI 0)), (14, .int (nI 1)), (13, .int (nI 14)), (11, .int (-2147483648)), (10, .int (-2147483648)), (9, .int (-2147483648)), (8, .int (-2147483648)), (7, .int (-2147483648)), (6, .int (-2147483648)), (5, .int (nI 3)), (4, .int (nI (dfO g0 a a))), (3, .int (nI 2147483647)), (0, .ref (ad 70)), (1, .int (nI a)), (2, .int (nI b))] → W p l e rm_Lr s m args below meth c H locs 222 1332 Q (F0 m 644 ls []) := by
  intro g z H locs ls hs hP hD hS hl
  refine lv_iload C.hx C.hb dL_refuses_644 (lv_at hl 3 rfl) ?_
  refine lv_bipush (v := nI 16) C.hx C.hb dL_refuses_646 (by decide +kernel) ?_
  refine lv_icmp_eq (tgt := 658) C.hx C.hb dL_refuses_648 (by decide) (fun c9 => absurd c9 (by decide +kernel)) (fun _ => ?_)
  refine lv_iload C.hx C.hb dL_refuses_651 (lv_at hl 3 rfl) ?_
  refine lv_bipush (v := nI 18) C.hx C.hb dL_refuses_653 (by decide +kernel) ?_
  refine lv_icmp_ne (tgt := 681) C.hx C.hb dL_refuses_655 (by decide) (fun _ => ?_) (fun c9 => absurd c9 (by decide +kernel))
  refine lv_iinc (v := nI 15) (lv' := [(13, .int (nI 15)), (12, .int (nI 1)), (15, .int (nI 0)), (14, .int (nI 1)), (11, .int (-2147483648)), (10, .int (-2147483648)), (9, .int (-2147483648)), (8, .int (-2147483648)), (7, .int (-2147483648)), (6, .int (-2147483648)), (5, .int (nI 3)), (4, .int (nI (dfO g0 a a))), (3, .int (nI 2147483647)), (0, .ref (ad 70)), (1, .int (nI a)), (2, .int (nI b))]) C.hx C.hb dL_refuses_681 hl (k := 3) rfl (by decide +kernel) (by decide) rfl (fun ls hl => ?_)
  refine lv_goto (tgt := 459) C.hx C.hb dL_refuses_684 (by decide) ?_
  refine lv_iload C.hx C.hb dL_refuses_459 (lv_at hl 0 rfl) ?_
  refine lv_bipush (v := nI 20) C.hx C.hb dL_refuses_461 (by decide +kernel) ?_
  refine lv_icmp_ge (tgt := 687) C.hx C.hb dL_refuses_463 (by decide) (fun c9 => absurd c9 (by decide +kernel)) (fun _ => ?_)
  refine lv_iload C.hx C.hb dL_refuses_466 (lv_at hl 1 rfl) ?_
  refine lv_if_eq (tgt := 687) C.hx C.hb dL_refuses_468 (by decide) (fun c9 => absurd c9 (by decide +kernel)) (fun _ => ?_)
  refine lv_iload C.hx C.hb dL_refuses_471 (lv_at hl 0 rfl) ?_
  refine lv_iconst (v := nI 4) C.hx C.hb dL_refuses_473 (by decide +kernel) ?_
  refine lv_icmp_lt (tgt := 497) C.hx C.hb dL_refuses_474 (by decide) (fun c9 => absurd c9 (by decide +kernel)) (fun _ => ?_)
  refine lv_iload C.hx C.hb dL_refuses_477 (lv_at hl 0 rfl) ?_
  refine lv_iconst (v := nI 5) C.hx C.hb dL_refuses_479 (by decide +kernel) ?_
  refine lv_icmp_le (tgt := 490) C.hx C.hb dL_refuses_480 (by decide) (fun c9 => absurd c9 (by decide +kernel)) (fun _ => ?_)
  refine lv_iload C.hx C.hb dL_refuses_483 (lv_at hl 0 rfl) ?_
  refine lv_bipush (v := nI 15) C.hx C.hb dL_refuses_485 (by decide +kernel) ?_
  refine lv_icmp_lt (tgt := 497) C.hx C.hb dL_refuses_487 (by decide) (fun c9 => absurd c9 (by decide +kernel)) (fun _ => ?_)
  refine lv_iload C.hx C.hb dL_refuses_490 (lv_at hl 0 rfl) ?_
  refine lv_bipush (v := nI 19) C.hx C.hb dL_refuses_492 (by decide +kernel) ?_
  refine lv_icmp_ne (tgt := 501) C.hx C.hb dL_refuses_494 (by decide) (fun _ => ?_) (fun c9 => absurd c9 (by decide +kernel))
  refine lv_iconst (v := nI 0) C.hx C.hb dL_refuses_501 (by decide +kernel) ?_
  refine lv_istore (lv' := [(14, .int (nI 0)), (13, .int (nI 15)), (12, .int (nI 1)), (15, .int (nI 0)), (11, .int (-2147483648)), (10, .int (-2147483648)), (9, .int (-2147483648)), (8, .int (-2147483648)), (7, .int (-2147483648)), (6, .int (-2147483648)), (5, .int (nI 3)), (4, .int (nI (dfO g0 a a))), (3, .int (nI 2147483647)), (0, .ref (ad 70)), (1, .int (nI a)), (2, .int (nI b))]) C.hx C.hb dL_refuses_502 hl (by decide) rfl (fun ls hl => ?_)
  refine lv_iload C.hx C.hb dL_refuses_504 (lv_at hl 1 rfl) ?_
  refine lv_iconst (v := nI 3) C.hx C.hb dL_refuses_506 (by decide +kernel) ?_
  refine lv_icmp_eq (tgt := 531) C.hx C.hb dL_refuses_507 (by decide) (fun c9 => absurd c9 (by decide +kernel)) (fun _ => ?_)
  refine lv_iload C.hx C.hb dL_refuses_510 (lv_at hl 1 rfl) ?_
  refine lv_bipush (v := nI 7) C.hx C.hb dL_refuses_512 (by decide +kernel) ?_
  refine lv_icmp_le (tgt := 524) C.hx C.hb dL_refuses_514 (by decide) (fun c9 => absurd c9 (by decide +kernel)) (fun _ => ?_)
  refine lv_iload C.hx C.hb dL_refuses_517 (lv_at hl 1 rfl) ?_
  refine lv_bipush (v := nI 13) C.hx C.hb dL_refuses_519 (by decide +kernel) ?_
  refine lv_icmp_lt (tgt := 531) C.hx C.hb dL_refuses_521 (by decide) (fun c9 => absurd c9 (by decide +kernel)) (fun _ => ?_)
  refine lv_iload C.hx C.hb dL_refuses_524 (lv_at hl 1 rfl) ?_
  refine lv_bipush (v := nI 19) C.hx C.hb dL_refuses_526 (by decide +kernel) ?_
  refine lv_icmp_ne (tgt := 535) C.hx C.hb dL_refuses_528 (by decide) (fun _ => ?_) (fun c9 => absurd c9 (by decide +kernel))
  refine lv_iconst (v := nI 0) C.hx C.hb dL_refuses_535 (by decide +kernel) ?_
  refine lv_istore (lv' := [(15, .int (nI 0)), (14, .int (nI 0)), (13, .int (nI 15)), (12, .int (nI 1)), (11, .int (-2147483648)), (10, .int (-2147483648)), (9, .int (-2147483648)), (8, .int (-2147483648)), (7, .int (-2147483648)), (6, .int (-2147483648)), (5, .int (nI 3)), (4, .int (nI (dfO g0 a a))), (3, .int (nI 2147483647)), (0, .ref (ad 70)), (1, .int (nI a)), (2, .int (nI b))]) C.hx C.hb dL_refuses_536 hl (by decide) rfl (fun ls hl => ?_)
  refine lv_iload C.hx C.hb dL_refuses_538 (lv_at hl 1 rfl) ?_
  refine lv_if_eq (tgt := 567) C.hx C.hb dL_refuses_540 (by decide) (fun _ => ?_) (fun c9 => absurd c9 (by decide +kernel))
  refine lv_iload C.hx C.hb dL_refuses_567 (lv_at hl 0 rfl) ?_
  refine lv_if_eq (tgt := 637) C.hx C.hb dL_refuses_569 (by decide) (fun _ => ?_) (fun c9 => absurd c9 (by decide +kernel))
  refine lv_iload C.hx C.hb dL_refuses_637 (lv_at hl 2 rfl) ?_
  refine lv_bipush (v := nI 15) C.hx C.hb dL_refuses_639 (by decide +kernel) ?_
  refine lv_icmp_eq (tgt := 658) C.hx C.hb dL_refuses_641 (by decide) (fun _ => ?_) (fun c9 => absurd c9 (by decide +kernel))
  refine lv_aload_n C.hx C.hb dL_refuses_658 rfl (lv_at hl 13 rfl) ?_
  refine lv_iload C.hx C.hb dL_refuses_659 (lv_at hl 2 rfl) ?_
  refine lv_iload C.hx C.hb dL_refuses_661 (lv_at hl 6 rfl) ?_
  refine lv_iconst (v := nI 0) C.hx C.hb dL_refuses_663 (by decide +kernel) ?_
  refine lv_iconst (v := nI 0) C.hx C.hb dL_refuses_664 (by decide +kernel) ?_
  refine lv_iconst (v := nI 0) C.hx C.hb dL_refuses_665 (by decide +kernel) ?_
  refine q_cR (w := 15) (p0 := -2147483648) (p1 := nI 0) (p2 := nI 0) (p3 := nI 0) (r := -7000001) (c2 := 223) (s2 := 1338) C hs hP hD hS (ri_entry C.htr (notr (by decide +kernel) (by omega))) hl rfl (Nat.le_of_ble_eq_true rfl) ⟨Nat.le_of_ble_eq_true rfl, Nat.le_of_ble_eq_true rfl⟩ ⟨Nat.le_of_ble_eq_true rfl, Nat.le_of_ble_eq_true rfl⟩ ⟨Nat.le_of_ble_eq_true rfl, Nat.le_of_ble_eq_true rfl⟩ dL_refuses_666 (fun g z H locs hs hP hD hS => ?_)
  refine lv_ldc (v := -7000001) C.hx C.hb C.hown (C.hT.use kk_L_90 args) dL_refuses_669 ?_
  refine lv_icmp_ne (tgt := 678) C.hx C.hb dL_refuses_671 (by decide) (fun c9 => absurd c9 (by decide +kernel)) (fun _ => ?_)
  refine lv_iconst (v := nI 1) C.hx C.hb dL_refuses_674 (by decide +kernel) ?_
  refine lv_goto (tgt := 679) C.hx C.hb dL_refuses_675 (by decide) ?_
  refine lv_istore (lv' := [(12, .int (nI 1)), (15, .int (nI 0)), (14, .int (nI 0)), (13, .int (nI 15)), (11, .int (-2147483648)), (10, .int (-2147483648)), (9, .int (-2147483648)), (8, .int (-2147483648)), (7, .int (-2147483648)), (6, .int (-2147483648)), (5, .int (nI 3)), (4, .int (nI (dfO g0 a a))), (3, .int (nI 2147483647)), (0, .ref (ad 70)), (1, .int (nI a)), (2, .int (nI b))]) C.hx C.hb dL_refuses_679 hl (by decide) rfl (fun ls hl => ?_)
  refine lv_iinc (v := nI 16) (lv' := [(13, .int (nI 16)), (12, .int (nI 1)), (15, .int (nI 0)), (14, .int (nI 0)), (11, .int (-2147483648)), (10, .int (-2147483648)), (9, .int (-2147483648)), (8, .int (-2147483648)), (7, .int (-2147483648)), (6, .int (-2147483648)), (5, .int (nI 3)), (4, .int (nI (dfO g0 a a))), (3, .int (nI 2147483647)), (0, .ref (ad 70)), (1, .int (nI a)), (2, .int (nI b))]) C.hx C.hb dL_refuses_681 hl (k := 3) rfl (by decide +kernel) (by decide) rfl (fun ls hl => ?_)
  exact kk g z H locs ls hs hP hD hS hl

set_option maxRecDepth 100000 in
set_option maxHeartbeats 4000000 in
theorem tf_102 {p : Program} {l : Launch} {e : Env} {s : State} {m : MethodId} {args : Array Value} {below : List Frame} {meth : Method} {c : Code} {D : va_G} {cA : ClassId} {A : Nat → Prop} {ad : Nat → Nat} {Q : State → Prop} {g0 : Nat → Nat → Int32} {a t b : Nat} (ha : a ≤ 16) (hb9 : b ≤ 40) (hab : 0 < a → 0 < b) (C : lcx p l s m c cL_refuses 16 D cA A) (kk : ∀ (g : Nat → Nat → Int32) (z : Nat → Nat) (H : Heap) (locs : List Loc) (ls : Array Slot), SR g0 a t b g z → va_P D vwCl (rlW cA ad g z) H → va_D A (rlW cA ad g z) → va_S A s.heap H locs → lv_has ls 16 [(13, .int (nI 17)), (12, .int (nI 1)), (15, .int (nI 0)), (14, .int (nI 0)), (11, .int (-2147483648)), (10, .int (-2147483648)), (9, .int (-2147483648)), (8, .int (-2147483648)), (7, .int (-2147483648)), (6, .int (-2147483648)), (5, .int (nI 3)), (4, .int (nI (dfO g0 a a))), (3, .int (nI 2147483647)), (0, .ref (ad 70)), (1, .int (nI a)), (2, .int (nI b))] → W p l e rm_Lr s m args below meth c H locs 224 1344 Q (F0 m 466 ls [])) : ∀ (g : Nat → Nat → Int32) (z : Nat → Nat) (H : Heap) (locs : List Loc) (ls : Array Slot), SR g0 a t b g z → va_P D vwCl (rlW cA ad g z) H → va_D A (rlW cA ad g z) → va_S A s.heap H locs → lv_has ls 16 [(13, .int (nI 16)), (12, .int (nI 1)), (15, .int (nI 0)), (14, .int (nI 0)), (11, .int (-2147483648)), (10, .int (-2147483648)), (9, .int (-2147483648)), (8, .int (-2147483648)), (7, .int (-2147483648)), (6, .int (-2147483648)), (5, .int (nI 3)), (4, .int (nI (dfO g0 a a))), (3, .int (nI 2147483647)), (0, .ref (ad 70)), (1, .int (nI a)), (2, .int (nI b))] → W p l e rm_Lr s m args below meth c H locs 223 1338 Q (F0 m 684 ls []) := by
  intro g z H locs ls hs hP hD hS hl
  refine lv_goto (tgt := 459) C.hx C.hb dL_refuses_684 (by decide) ?_
  refine lv_iload C.hx C.hb dL_refuses_459 (lv_at hl 0 rfl) ?_
  refine lv_bipush (v := nI 20) C.hx C.hb dL_refuses_461 (by decide +kernel) ?_
  refine lv_icmp_ge (tgt := 687) C.hx C.hb dL_refuses_463 (by decide) (fun c9 => absurd c9 (by decide +kernel)) (fun _ => ?_)
  refine lv_iload C.hx C.hb dL_refuses_466 (lv_at hl 1 rfl) ?_
  refine lv_if_eq (tgt := 687) C.hx C.hb dL_refuses_468 (by decide) (fun c9 => absurd c9 (by decide +kernel)) (fun _ => ?_)
  refine lv_iload C.hx C.hb dL_refuses_471 (lv_at hl 0 rfl) ?_
  refine lv_iconst (v := nI 4) C.hx C.hb dL_refuses_473 (by decide +kernel) ?_
  refine lv_icmp_lt (tgt := 497) C.hx C.hb dL_refuses_474 (by decide) (fun c9 => absurd c9 (by decide +kernel)) (fun _ => ?_)
  refine lv_iload C.hx C.hb dL_refuses_477 (lv_at hl 0 rfl) ?_
  refine lv_iconst (v := nI 5) C.hx C.hb dL_refuses_479 (by decide +kernel) ?_
  refine lv_icmp_le (tgt := 490) C.hx C.hb dL_refuses_480 (by decide) (fun c9 => absurd c9 (by decide +kernel)) (fun _ => ?_)
  refine lv_iload C.hx C.hb dL_refuses_483 (lv_at hl 0 rfl) ?_
  refine lv_bipush (v := nI 15) C.hx C.hb dL_refuses_485 (by decide +kernel) ?_
  refine lv_icmp_lt (tgt := 497) C.hx C.hb dL_refuses_487 (by decide) (fun c9 => absurd c9 (by decide +kernel)) (fun _ => ?_)
  refine lv_iload C.hx C.hb dL_refuses_490 (lv_at hl 0 rfl) ?_
  refine lv_bipush (v := nI 19) C.hx C.hb dL_refuses_492 (by decide +kernel) ?_
  refine lv_icmp_ne (tgt := 501) C.hx C.hb dL_refuses_494 (by decide) (fun _ => ?_) (fun c9 => absurd c9 (by decide +kernel))
  refine lv_iconst (v := nI 0) C.hx C.hb dL_refuses_501 (by decide +kernel) ?_
  refine lv_istore (lv' := [(14, .int (nI 0)), (13, .int (nI 16)), (12, .int (nI 1)), (15, .int (nI 0)), (11, .int (-2147483648)), (10, .int (-2147483648)), (9, .int (-2147483648)), (8, .int (-2147483648)), (7, .int (-2147483648)), (6, .int (-2147483648)), (5, .int (nI 3)), (4, .int (nI (dfO g0 a a))), (3, .int (nI 2147483647)), (0, .ref (ad 70)), (1, .int (nI a)), (2, .int (nI b))]) C.hx C.hb dL_refuses_502 hl (by decide) rfl (fun ls hl => ?_)
  refine lv_iload C.hx C.hb dL_refuses_504 (lv_at hl 1 rfl) ?_
  refine lv_iconst (v := nI 3) C.hx C.hb dL_refuses_506 (by decide +kernel) ?_
  refine lv_icmp_eq (tgt := 531) C.hx C.hb dL_refuses_507 (by decide) (fun c9 => absurd c9 (by decide +kernel)) (fun _ => ?_)
  refine lv_iload C.hx C.hb dL_refuses_510 (lv_at hl 1 rfl) ?_
  refine lv_bipush (v := nI 7) C.hx C.hb dL_refuses_512 (by decide +kernel) ?_
  refine lv_icmp_le (tgt := 524) C.hx C.hb dL_refuses_514 (by decide) (fun c9 => absurd c9 (by decide +kernel)) (fun _ => ?_)
  refine lv_iload C.hx C.hb dL_refuses_517 (lv_at hl 1 rfl) ?_
  refine lv_bipush (v := nI 13) C.hx C.hb dL_refuses_519 (by decide +kernel) ?_
  refine lv_icmp_lt (tgt := 531) C.hx C.hb dL_refuses_521 (by decide) (fun c9 => absurd c9 (by decide +kernel)) (fun _ => ?_)
  refine lv_iload C.hx C.hb dL_refuses_524 (lv_at hl 1 rfl) ?_
  refine lv_bipush (v := nI 19) C.hx C.hb dL_refuses_526 (by decide +kernel) ?_
  refine lv_icmp_ne (tgt := 535) C.hx C.hb dL_refuses_528 (by decide) (fun _ => ?_) (fun c9 => absurd c9 (by decide +kernel))
  refine lv_iconst (v := nI 0) C.hx C.hb dL_refuses_535 (by decide +kernel) ?_
  refine lv_istore (lv' := [(15, .int (nI 0)), (14, .int (nI 0)), (13, .int (nI 16)), (12, .int (nI 1)), (11, .int (-2147483648)), (10, .int (-2147483648)), (9, .int (-2147483648)), (8, .int (-2147483648)), (7, .int (-2147483648)), (6, .int (-2147483648)), (5, .int (nI 3)), (4, .int (nI (dfO g0 a a))), (3, .int (nI 2147483647)), (0, .ref (ad 70)), (1, .int (nI a)), (2, .int (nI b))]) C.hx C.hb dL_refuses_536 hl (by decide) rfl (fun ls hl => ?_)
  refine lv_iload C.hx C.hb dL_refuses_538 (lv_at hl 1 rfl) ?_
  refine lv_if_eq (tgt := 567) C.hx C.hb dL_refuses_540 (by decide) (fun _ => ?_) (fun c9 => absurd c9 (by decide +kernel))
  refine lv_iload C.hx C.hb dL_refuses_567 (lv_at hl 0 rfl) ?_
  refine lv_if_eq (tgt := 637) C.hx C.hb dL_refuses_569 (by decide) (fun _ => ?_) (fun c9 => absurd c9 (by decide +kernel))
  refine lv_iload C.hx C.hb dL_refuses_637 (lv_at hl 2 rfl) ?_
  refine lv_bipush (v := nI 15) C.hx C.hb dL_refuses_639 (by decide +kernel) ?_
  refine lv_icmp_eq (tgt := 658) C.hx C.hb dL_refuses_641 (by decide) (fun c9 => absurd c9 (by decide +kernel)) (fun _ => ?_)
  refine lv_iload C.hx C.hb dL_refuses_644 (lv_at hl 2 rfl) ?_
  refine lv_bipush (v := nI 16) C.hx C.hb dL_refuses_646 (by decide +kernel) ?_
  refine lv_icmp_eq (tgt := 658) C.hx C.hb dL_refuses_648 (by decide) (fun _ => ?_) (fun c9 => absurd c9 (by decide +kernel))
  refine lv_aload_n C.hx C.hb dL_refuses_658 rfl (lv_at hl 13 rfl) ?_
  refine lv_iload C.hx C.hb dL_refuses_659 (lv_at hl 2 rfl) ?_
  refine lv_iload C.hx C.hb dL_refuses_661 (lv_at hl 6 rfl) ?_
  refine lv_iconst (v := nI 0) C.hx C.hb dL_refuses_663 (by decide +kernel) ?_
  refine lv_iconst (v := nI 0) C.hx C.hb dL_refuses_664 (by decide +kernel) ?_
  refine lv_iconst (v := nI 0) C.hx C.hb dL_refuses_665 (by decide +kernel) ?_
  refine q_cR (w := 16) (p0 := -2147483648) (p1 := nI 0) (p2 := nI 0) (p3 := nI 0) (r := -7000001) (c2 := 224) (s2 := 1344) C hs hP hD hS (ri_size C.htr (notr (by decide +kernel) (by omega))) hl rfl (Nat.le_of_ble_eq_true rfl) ⟨Nat.le_of_ble_eq_true rfl, Nat.le_of_ble_eq_true rfl⟩ ⟨Nat.le_of_ble_eq_true rfl, Nat.le_of_ble_eq_true rfl⟩ ⟨Nat.le_of_ble_eq_true rfl, Nat.le_of_ble_eq_true rfl⟩ dL_refuses_666 (fun g z H locs hs hP hD hS => ?_)
  refine lv_ldc (v := -7000001) C.hx C.hb C.hown (C.hT.use kk_L_90 args) dL_refuses_669 ?_
  refine lv_icmp_ne (tgt := 678) C.hx C.hb dL_refuses_671 (by decide) (fun c9 => absurd c9 (by decide +kernel)) (fun _ => ?_)
  refine lv_iconst (v := nI 1) C.hx C.hb dL_refuses_674 (by decide +kernel) ?_
  refine lv_goto (tgt := 679) C.hx C.hb dL_refuses_675 (by decide) ?_
  refine lv_istore (lv' := [(12, .int (nI 1)), (15, .int (nI 0)), (14, .int (nI 0)), (13, .int (nI 16)), (11, .int (-2147483648)), (10, .int (-2147483648)), (9, .int (-2147483648)), (8, .int (-2147483648)), (7, .int (-2147483648)), (6, .int (-2147483648)), (5, .int (nI 3)), (4, .int (nI (dfO g0 a a))), (3, .int (nI 2147483647)), (0, .ref (ad 70)), (1, .int (nI a)), (2, .int (nI b))]) C.hx C.hb dL_refuses_679 hl (by decide) rfl (fun ls hl => ?_)
  refine lv_iinc (v := nI 17) (lv' := [(13, .int (nI 17)), (12, .int (nI 1)), (15, .int (nI 0)), (14, .int (nI 0)), (11, .int (-2147483648)), (10, .int (-2147483648)), (9, .int (-2147483648)), (8, .int (-2147483648)), (7, .int (-2147483648)), (6, .int (-2147483648)), (5, .int (nI 3)), (4, .int (nI (dfO g0 a a))), (3, .int (nI 2147483647)), (0, .ref (ad 70)), (1, .int (nI a)), (2, .int (nI b))]) C.hx C.hb dL_refuses_681 hl (k := 3) rfl (by decide +kernel) (by decide) rfl (fun ls hl => ?_)
  refine lv_goto (tgt := 459) C.hx C.hb dL_refuses_684 (by decide) ?_
  refine lv_iload C.hx C.hb dL_refuses_459 (lv_at hl 0 rfl) ?_
  refine lv_bipush (v := nI 20) C.hx C.hb dL_refuses_461 (by decide +kernel) ?_
  refine lv_icmp_ge (tgt := 687) C.hx C.hb dL_refuses_463 (by decide) (fun c9 => absurd c9 (by decide +kernel)) (fun _ => ?_)
  exact kk g z H locs ls hs hP hD hS hl

set_option maxRecDepth 100000 in
set_option maxHeartbeats 4000000 in
theorem tf_103 {p : Program} {l : Launch} {e : Env} {s : State} {m : MethodId} {args : Array Value} {below : List Frame} {meth : Method} {c : Code} {D : va_G} {cA : ClassId} {A : Nat → Prop} {ad : Nat → Nat} {Q : State → Prop} {g0 : Nat → Nat → Int32} {a t b : Nat} (ha : a ≤ 16) (hb9 : b ≤ 40) (hab : 0 < a → 0 < b) (C : lcx p l s m c cL_refuses 16 D cA A) (kk : ∀ (g : Nat → Nat → Int32) (z : Nat → Nat) (H : Heap) (locs : List Loc) (ls : Array Slot), SR g0 a t b g z → va_P D vwCl (rlW cA ad g z) H → va_D A (rlW cA ad g z) → va_S A s.heap H locs → lv_has ls 16 [(13, .int (nI 18)), (15, .int (nI 0)), (14, .int (nI 0)), (12, .int (nI 1)), (11, .int (-2147483648)), (10, .int (-2147483648)), (9, .int (-2147483648)), (8, .int (-2147483648)), (7, .int (-2147483648)), (6, .int (-2147483648)), (5, .int (nI 3)), (4, .int (nI (dfO g0 a a))), (3, .int (nI 2147483647)), (0, .ref (ad 70)), (1, .int (nI a)), (2, .int (nI b))] → W p l e rm_Lr s m args below meth c H locs 224 1344 Q (F0 m 501 ls [])) : ∀ (g : Nat → Nat → Int32) (z : Nat → Nat) (H : Heap) (locs : List Loc) (ls : Array Slot), SR g0 a t b g z → va_P D vwCl (rlW cA ad g z) H → va_D A (rlW cA ad g z) → va_S A s.heap H locs → lv_has ls 16 [(13, .int (nI 17)), (12, .int (nI 1)), (15, .int (nI 0)), (14, .int (nI 0)), (11, .int (-2147483648)), (10, .int (-2147483648)), (9, .int (-2147483648)), (8, .int (-2147483648)), (7, .int (-2147483648)), (6, .int (-2147483648)), (5, .int (nI 3)), (4, .int (nI (dfO g0 a a))), (3, .int (nI 2147483647)), (0, .ref (ad 70)), (1, .int (nI a)), (2, .int (nI b))] → W p l e rm_Lr s m args below meth c H locs 224 1344 Q (F0 m 466 ls []) := by
  intro g z H locs ls hs hP hD hS hl
  refine lv_iload C.hx C.hb dL_refuses_466 (lv_at hl 1 rfl) ?_
  refine lv_if_eq (tgt := 687) C.hx C.hb dL_refuses_468 (by decide) (fun c9 => absurd c9 (by decide +kernel)) (fun _ => ?_)
  refine lv_iload C.hx C.hb dL_refuses_471 (lv_at hl 0 rfl) ?_
  refine lv_iconst (v := nI 4) C.hx C.hb dL_refuses_473 (by decide +kernel) ?_
  refine lv_icmp_lt (tgt := 497) C.hx C.hb dL_refuses_474 (by decide) (fun c9 => absurd c9 (by decide +kernel)) (fun _ => ?_)
  refine lv_iload C.hx C.hb dL_refuses_477 (lv_at hl 0 rfl) ?_
  refine lv_iconst (v := nI 5) C.hx C.hb dL_refuses_479 (by decide +kernel) ?_
  refine lv_icmp_le (tgt := 490) C.hx C.hb dL_refuses_480 (by decide) (fun c9 => absurd c9 (by decide +kernel)) (fun _ => ?_)
  refine lv_iload C.hx C.hb dL_refuses_483 (lv_at hl 0 rfl) ?_
  refine lv_bipush (v := nI 15) C.hx C.hb dL_refuses_485 (by decide +kernel) ?_
  refine lv_icmp_lt (tgt := 497) C.hx C.hb dL_refuses_487 (by decide) (fun c9 => absurd c9 (by decide +kernel)) (fun _ => ?_)
  refine lv_iload C.hx C.hb dL_refuses_490 (lv_at hl 0 rfl) ?_
  refine lv_bipush (v := nI 19) C.hx C.hb dL_refuses_492 (by decide +kernel) ?_
  refine lv_icmp_ne (tgt := 501) C.hx C.hb dL_refuses_494 (by decide) (fun _ => ?_) (fun c9 => absurd c9 (by decide +kernel))
  refine lv_iconst (v := nI 0) C.hx C.hb dL_refuses_501 (by decide +kernel) ?_
  refine lv_istore (lv' := [(14, .int (nI 0)), (13, .int (nI 17)), (12, .int (nI 1)), (15, .int (nI 0)), (11, .int (-2147483648)), (10, .int (-2147483648)), (9, .int (-2147483648)), (8, .int (-2147483648)), (7, .int (-2147483648)), (6, .int (-2147483648)), (5, .int (nI 3)), (4, .int (nI (dfO g0 a a))), (3, .int (nI 2147483647)), (0, .ref (ad 70)), (1, .int (nI a)), (2, .int (nI b))]) C.hx C.hb dL_refuses_502 hl (by decide) rfl (fun ls hl => ?_)
  refine lv_iload C.hx C.hb dL_refuses_504 (lv_at hl 1 rfl) ?_
  refine lv_iconst (v := nI 3) C.hx C.hb dL_refuses_506 (by decide +kernel) ?_
  refine lv_icmp_eq (tgt := 531) C.hx C.hb dL_refuses_507 (by decide) (fun c9 => absurd c9 (by decide +kernel)) (fun _ => ?_)
  refine lv_iload C.hx C.hb dL_refuses_510 (lv_at hl 1 rfl) ?_
  refine lv_bipush (v := nI 7) C.hx C.hb dL_refuses_512 (by decide +kernel) ?_
  refine lv_icmp_le (tgt := 524) C.hx C.hb dL_refuses_514 (by decide) (fun c9 => absurd c9 (by decide +kernel)) (fun _ => ?_)
  refine lv_iload C.hx C.hb dL_refuses_517 (lv_at hl 1 rfl) ?_
  refine lv_bipush (v := nI 13) C.hx C.hb dL_refuses_519 (by decide +kernel) ?_
  refine lv_icmp_lt (tgt := 531) C.hx C.hb dL_refuses_521 (by decide) (fun c9 => absurd c9 (by decide +kernel)) (fun _ => ?_)
  refine lv_iload C.hx C.hb dL_refuses_524 (lv_at hl 1 rfl) ?_
  refine lv_bipush (v := nI 19) C.hx C.hb dL_refuses_526 (by decide +kernel) ?_
  refine lv_icmp_ne (tgt := 535) C.hx C.hb dL_refuses_528 (by decide) (fun _ => ?_) (fun c9 => absurd c9 (by decide +kernel))
  refine lv_iconst (v := nI 0) C.hx C.hb dL_refuses_535 (by decide +kernel) ?_
  refine lv_istore (lv' := [(15, .int (nI 0)), (14, .int (nI 0)), (13, .int (nI 17)), (12, .int (nI 1)), (11, .int (-2147483648)), (10, .int (-2147483648)), (9, .int (-2147483648)), (8, .int (-2147483648)), (7, .int (-2147483648)), (6, .int (-2147483648)), (5, .int (nI 3)), (4, .int (nI (dfO g0 a a))), (3, .int (nI 2147483647)), (0, .ref (ad 70)), (1, .int (nI a)), (2, .int (nI b))]) C.hx C.hb dL_refuses_536 hl (by decide) rfl (fun ls hl => ?_)
  refine lv_iload C.hx C.hb dL_refuses_538 (lv_at hl 1 rfl) ?_
  refine lv_if_eq (tgt := 567) C.hx C.hb dL_refuses_540 (by decide) (fun _ => ?_) (fun c9 => absurd c9 (by decide +kernel))
  refine lv_iload C.hx C.hb dL_refuses_567 (lv_at hl 0 rfl) ?_
  refine lv_if_eq (tgt := 637) C.hx C.hb dL_refuses_569 (by decide) (fun _ => ?_) (fun c9 => absurd c9 (by decide +kernel))
  refine lv_iload C.hx C.hb dL_refuses_637 (lv_at hl 2 rfl) ?_
  refine lv_bipush (v := nI 15) C.hx C.hb dL_refuses_639 (by decide +kernel) ?_
  refine lv_icmp_eq (tgt := 658) C.hx C.hb dL_refuses_641 (by decide) (fun c9 => absurd c9 (by decide +kernel)) (fun _ => ?_)
  refine lv_iload C.hx C.hb dL_refuses_644 (lv_at hl 2 rfl) ?_
  refine lv_bipush (v := nI 16) C.hx C.hb dL_refuses_646 (by decide +kernel) ?_
  refine lv_icmp_eq (tgt := 658) C.hx C.hb dL_refuses_648 (by decide) (fun c9 => absurd c9 (by decide +kernel)) (fun _ => ?_)
  refine lv_iload C.hx C.hb dL_refuses_651 (lv_at hl 2 rfl) ?_
  refine lv_bipush (v := nI 18) C.hx C.hb dL_refuses_653 (by decide +kernel) ?_
  refine lv_icmp_ne (tgt := 681) C.hx C.hb dL_refuses_655 (by decide) (fun _ => ?_) (fun c9 => absurd c9 (by decide +kernel))
  refine lv_iinc (v := nI 18) (lv' := [(13, .int (nI 18)), (15, .int (nI 0)), (14, .int (nI 0)), (12, .int (nI 1)), (11, .int (-2147483648)), (10, .int (-2147483648)), (9, .int (-2147483648)), (8, .int (-2147483648)), (7, .int (-2147483648)), (6, .int (-2147483648)), (5, .int (nI 3)), (4, .int (nI (dfO g0 a a))), (3, .int (nI 2147483647)), (0, .ref (ad 70)), (1, .int (nI a)), (2, .int (nI b))]) C.hx C.hb dL_refuses_681 hl (k := 2) rfl (by decide +kernel) (by decide) rfl (fun ls hl => ?_)
  refine lv_goto (tgt := 459) C.hx C.hb dL_refuses_684 (by decide) ?_
  refine lv_iload C.hx C.hb dL_refuses_459 (lv_at hl 0 rfl) ?_
  refine lv_bipush (v := nI 20) C.hx C.hb dL_refuses_461 (by decide +kernel) ?_
  refine lv_icmp_ge (tgt := 687) C.hx C.hb dL_refuses_463 (by decide) (fun c9 => absurd c9 (by decide +kernel)) (fun _ => ?_)
  refine lv_iload C.hx C.hb dL_refuses_466 (lv_at hl 3 rfl) ?_
  refine lv_if_eq (tgt := 687) C.hx C.hb dL_refuses_468 (by decide) (fun c9 => absurd c9 (by decide +kernel)) (fun _ => ?_)
  refine lv_iload C.hx C.hb dL_refuses_471 (lv_at hl 0 rfl) ?_
  refine lv_iconst (v := nI 4) C.hx C.hb dL_refuses_473 (by decide +kernel) ?_
  refine lv_icmp_lt (tgt := 497) C.hx C.hb dL_refuses_474 (by decide) (fun c9 => absurd c9 (by decide +kernel)) (fun _ => ?_)
  refine lv_iload C.hx C.hb dL_refuses_477 (lv_at hl 0 rfl) ?_
  refine lv_iconst (v := nI 5) C.hx C.hb dL_refuses_479 (by decide +kernel) ?_
  refine lv_icmp_le (tgt := 490) C.hx C.hb dL_refuses_480 (by decide) (fun c9 => absurd c9 (by decide +kernel)) (fun _ => ?_)
  refine lv_iload C.hx C.hb dL_refuses_483 (lv_at hl 0 rfl) ?_
  refine lv_bipush (v := nI 15) C.hx C.hb dL_refuses_485 (by decide +kernel) ?_
  refine lv_icmp_lt (tgt := 497) C.hx C.hb dL_refuses_487 (by decide) (fun c9 => absurd c9 (by decide +kernel)) (fun _ => ?_)
  refine lv_iload C.hx C.hb dL_refuses_490 (lv_at hl 0 rfl) ?_
  refine lv_bipush (v := nI 19) C.hx C.hb dL_refuses_492 (by decide +kernel) ?_
  refine lv_icmp_ne (tgt := 501) C.hx C.hb dL_refuses_494 (by decide) (fun _ => ?_) (fun c9 => absurd c9 (by decide +kernel))
  exact kk g z H locs ls hs hP hD hS hl

set_option maxRecDepth 100000 in
set_option maxHeartbeats 4000000 in
theorem tf_104 {p : Program} {l : Launch} {e : Env} {s : State} {m : MethodId} {args : Array Value} {below : List Frame} {meth : Method} {c : Code} {D : va_G} {cA : ClassId} {A : Nat → Prop} {ad : Nat → Nat} {Q : State → Prop} {g0 : Nat → Nat → Int32} {a t b : Nat} (ha : a ≤ 16) (hb9 : b ≤ 40) (hab : 0 < a → 0 < b) (C : lcx p l s m c cL_refuses 16 D cA A) (kk : ∀ (g : Nat → Nat → Int32) (z : Nat → Nat) (H : Heap) (locs : List Loc) (ls : Array Slot), SR g0 a t b g z → va_P D vwCl (rlW cA ad g z) H → va_D A (rlW cA ad g z) → va_S A s.heap H locs → lv_has ls 16 [(14, .int (nI 1)), (13, .int (nI 19)), (12, .int (nI 1)), (15, .int (nI 0)), (11, .int (-2147483648)), (10, .int (-2147483648)), (9, .int (-2147483648)), (8, .int (-2147483648)), (7, .int (-2147483648)), (6, .int (-2147483648)), (5, .int (nI 3)), (4, .int (nI (dfO g0 a a))), (3, .int (nI 2147483647)), (0, .ref (ad 70)), (1, .int (nI a)), (2, .int (nI b))] → W p l e rm_Lr s m args below meth c H locs 225 1350 Q (F0 m 504 ls [])) : ∀ (g : Nat → Nat → Int32) (z : Nat → Nat) (H : Heap) (locs : List Loc) (ls : Array Slot), SR g0 a t b g z → va_P D vwCl (rlW cA ad g z) H → va_D A (rlW cA ad g z) → va_S A s.heap H locs → lv_has ls 16 [(13, .int (nI 18)), (15, .int (nI 0)), (14, .int (nI 0)), (12, .int (nI 1)), (11, .int (-2147483648)), (10, .int (-2147483648)), (9, .int (-2147483648)), (8, .int (-2147483648)), (7, .int (-2147483648)), (6, .int (-2147483648)), (5, .int (nI 3)), (4, .int (nI (dfO g0 a a))), (3, .int (nI 2147483647)), (0, .ref (ad 70)), (1, .int (nI a)), (2, .int (nI b))] → W p l e rm_Lr s m args below meth c H locs 224 1344 Q (F0 m 501 ls []) := by
  intro g z H locs ls hs hP hD hS hl
  refine lv_iconst (v := nI 0) C.hx C.hb dL_refuses_501 (by decide +kernel) ?_
  refine lv_istore (lv' := [(14, .int (nI 0)), (13, .int (nI 18)), (15, .int (nI 0)), (12, .int (nI 1)), (11, .int (-2147483648)), (10, .int (-2147483648)), (9, .int (-2147483648)), (8, .int (-2147483648)), (7, .int (-2147483648)), (6, .int (-2147483648)), (5, .int (nI 3)), (4, .int (nI (dfO g0 a a))), (3, .int (nI 2147483647)), (0, .ref (ad 70)), (1, .int (nI a)), (2, .int (nI b))]) C.hx C.hb dL_refuses_502 hl (by decide) rfl (fun ls hl => ?_)
  refine lv_iload C.hx C.hb dL_refuses_504 (lv_at hl 1 rfl) ?_
  refine lv_iconst (v := nI 3) C.hx C.hb dL_refuses_506 (by decide +kernel) ?_
  refine lv_icmp_eq (tgt := 531) C.hx C.hb dL_refuses_507 (by decide) (fun c9 => absurd c9 (by decide +kernel)) (fun _ => ?_)
  refine lv_iload C.hx C.hb dL_refuses_510 (lv_at hl 1 rfl) ?_
  refine lv_bipush (v := nI 7) C.hx C.hb dL_refuses_512 (by decide +kernel) ?_
  refine lv_icmp_le (tgt := 524) C.hx C.hb dL_refuses_514 (by decide) (fun c9 => absurd c9 (by decide +kernel)) (fun _ => ?_)
  refine lv_iload C.hx C.hb dL_refuses_517 (lv_at hl 1 rfl) ?_
  refine lv_bipush (v := nI 13) C.hx C.hb dL_refuses_519 (by decide +kernel) ?_
  refine lv_icmp_lt (tgt := 531) C.hx C.hb dL_refuses_521 (by decide) (fun c9 => absurd c9 (by decide +kernel)) (fun _ => ?_)
  refine lv_iload C.hx C.hb dL_refuses_524 (lv_at hl 1 rfl) ?_
  refine lv_bipush (v := nI 19) C.hx C.hb dL_refuses_526 (by decide +kernel) ?_
  refine lv_icmp_ne (tgt := 535) C.hx C.hb dL_refuses_528 (by decide) (fun _ => ?_) (fun c9 => absurd c9 (by decide +kernel))
  refine lv_iconst (v := nI 0) C.hx C.hb dL_refuses_535 (by decide +kernel) ?_
  refine lv_istore (lv' := [(15, .int (nI 0)), (14, .int (nI 0)), (13, .int (nI 18)), (12, .int (nI 1)), (11, .int (-2147483648)), (10, .int (-2147483648)), (9, .int (-2147483648)), (8, .int (-2147483648)), (7, .int (-2147483648)), (6, .int (-2147483648)), (5, .int (nI 3)), (4, .int (nI (dfO g0 a a))), (3, .int (nI 2147483647)), (0, .ref (ad 70)), (1, .int (nI a)), (2, .int (nI b))]) C.hx C.hb dL_refuses_536 hl (by decide) rfl (fun ls hl => ?_)
  refine lv_iload C.hx C.hb dL_refuses_538 (lv_at hl 1 rfl) ?_
  refine lv_if_eq (tgt := 567) C.hx C.hb dL_refuses_540 (by decide) (fun _ => ?_) (fun c9 => absurd c9 (by decide +kernel))
  refine lv_iload C.hx C.hb dL_refuses_567 (lv_at hl 0 rfl) ?_
  refine lv_if_eq (tgt := 637) C.hx C.hb dL_refuses_569 (by decide) (fun _ => ?_) (fun c9 => absurd c9 (by decide +kernel))
  refine lv_iload C.hx C.hb dL_refuses_637 (lv_at hl 2 rfl) ?_
  refine lv_bipush (v := nI 15) C.hx C.hb dL_refuses_639 (by decide +kernel) ?_
  refine lv_icmp_eq (tgt := 658) C.hx C.hb dL_refuses_641 (by decide) (fun c9 => absurd c9 (by decide +kernel)) (fun _ => ?_)
  refine lv_iload C.hx C.hb dL_refuses_644 (lv_at hl 2 rfl) ?_
  refine lv_bipush (v := nI 16) C.hx C.hb dL_refuses_646 (by decide +kernel) ?_
  refine lv_icmp_eq (tgt := 658) C.hx C.hb dL_refuses_648 (by decide) (fun c9 => absurd c9 (by decide +kernel)) (fun _ => ?_)
  refine lv_iload C.hx C.hb dL_refuses_651 (lv_at hl 2 rfl) ?_
  refine lv_bipush (v := nI 18) C.hx C.hb dL_refuses_653 (by decide +kernel) ?_
  refine lv_icmp_ne (tgt := 681) C.hx C.hb dL_refuses_655 (by decide) (fun c9 => absurd c9 (by decide +kernel)) (fun _ => ?_)
  refine lv_aload_n C.hx C.hb dL_refuses_658 rfl (lv_at hl 13 rfl) ?_
  refine lv_iload C.hx C.hb dL_refuses_659 (lv_at hl 2 rfl) ?_
  refine lv_iload C.hx C.hb dL_refuses_661 (lv_at hl 6 rfl) ?_
  refine lv_iconst (v := nI 0) C.hx C.hb dL_refuses_663 (by decide +kernel) ?_
  refine lv_iconst (v := nI 0) C.hx C.hb dL_refuses_664 (by decide +kernel) ?_
  refine lv_iconst (v := nI 0) C.hx C.hb dL_refuses_665 (by decide +kernel) ?_
  refine q_cR (w := 18) (p0 := -2147483648) (p1 := nI 0) (p2 := nI 0) (p3 := nI 0) (r := -7000001) (c2 := 225) (s2 := 1350) C hs hP hD hS (ri_breaches C.htr (notr (by decide +kernel) (by omega))) hl rfl (Nat.le_of_ble_eq_true rfl) ⟨Nat.le_of_ble_eq_true rfl, Nat.le_of_ble_eq_true rfl⟩ ⟨Nat.le_of_ble_eq_true rfl, Nat.le_of_ble_eq_true rfl⟩ ⟨Nat.le_of_ble_eq_true rfl, Nat.le_of_ble_eq_true rfl⟩ dL_refuses_666 (fun g z H locs hs hP hD hS => ?_)
  refine lv_ldc (v := -7000001) C.hx C.hb C.hown (C.hT.use kk_L_90 args) dL_refuses_669 ?_
  refine lv_icmp_ne (tgt := 678) C.hx C.hb dL_refuses_671 (by decide) (fun c9 => absurd c9 (by decide +kernel)) (fun _ => ?_)
  refine lv_iconst (v := nI 1) C.hx C.hb dL_refuses_674 (by decide +kernel) ?_
  refine lv_goto (tgt := 679) C.hx C.hb dL_refuses_675 (by decide) ?_
  refine lv_istore (lv' := [(12, .int (nI 1)), (15, .int (nI 0)), (14, .int (nI 0)), (13, .int (nI 18)), (11, .int (-2147483648)), (10, .int (-2147483648)), (9, .int (-2147483648)), (8, .int (-2147483648)), (7, .int (-2147483648)), (6, .int (-2147483648)), (5, .int (nI 3)), (4, .int (nI (dfO g0 a a))), (3, .int (nI 2147483647)), (0, .ref (ad 70)), (1, .int (nI a)), (2, .int (nI b))]) C.hx C.hb dL_refuses_679 hl (by decide) rfl (fun ls hl => ?_)
  refine lv_iinc (v := nI 19) (lv' := [(13, .int (nI 19)), (12, .int (nI 1)), (15, .int (nI 0)), (14, .int (nI 0)), (11, .int (-2147483648)), (10, .int (-2147483648)), (9, .int (-2147483648)), (8, .int (-2147483648)), (7, .int (-2147483648)), (6, .int (-2147483648)), (5, .int (nI 3)), (4, .int (nI (dfO g0 a a))), (3, .int (nI 2147483647)), (0, .ref (ad 70)), (1, .int (nI a)), (2, .int (nI b))]) C.hx C.hb dL_refuses_681 hl (k := 3) rfl (by decide +kernel) (by decide) rfl (fun ls hl => ?_)
  refine lv_goto (tgt := 459) C.hx C.hb dL_refuses_684 (by decide) ?_
  refine lv_iload C.hx C.hb dL_refuses_459 (lv_at hl 0 rfl) ?_
  refine lv_bipush (v := nI 20) C.hx C.hb dL_refuses_461 (by decide +kernel) ?_
  refine lv_icmp_ge (tgt := 687) C.hx C.hb dL_refuses_463 (by decide) (fun c9 => absurd c9 (by decide +kernel)) (fun _ => ?_)
  refine lv_iload C.hx C.hb dL_refuses_466 (lv_at hl 1 rfl) ?_
  refine lv_if_eq (tgt := 687) C.hx C.hb dL_refuses_468 (by decide) (fun c9 => absurd c9 (by decide +kernel)) (fun _ => ?_)
  refine lv_iload C.hx C.hb dL_refuses_471 (lv_at hl 0 rfl) ?_
  refine lv_iconst (v := nI 4) C.hx C.hb dL_refuses_473 (by decide +kernel) ?_
  refine lv_icmp_lt (tgt := 497) C.hx C.hb dL_refuses_474 (by decide) (fun c9 => absurd c9 (by decide +kernel)) (fun _ => ?_)
  refine lv_iload C.hx C.hb dL_refuses_477 (lv_at hl 0 rfl) ?_
  refine lv_iconst (v := nI 5) C.hx C.hb dL_refuses_479 (by decide +kernel) ?_
  refine lv_icmp_le (tgt := 490) C.hx C.hb dL_refuses_480 (by decide) (fun c9 => absurd c9 (by decide +kernel)) (fun _ => ?_)
  refine lv_iload C.hx C.hb dL_refuses_483 (lv_at hl 0 rfl) ?_
  refine lv_bipush (v := nI 15) C.hx C.hb dL_refuses_485 (by decide +kernel) ?_
  refine lv_icmp_lt (tgt := 497) C.hx C.hb dL_refuses_487 (by decide) (fun c9 => absurd c9 (by decide +kernel)) (fun _ => ?_)
  refine lv_iload C.hx C.hb dL_refuses_490 (lv_at hl 0 rfl) ?_
  refine lv_bipush (v := nI 19) C.hx C.hb dL_refuses_492 (by decide +kernel) ?_
  refine lv_icmp_ne (tgt := 501) C.hx C.hb dL_refuses_494 (by decide) (fun c9 => absurd c9 (by decide +kernel)) (fun _ => ?_)
  refine lv_iconst (v := nI 1) C.hx C.hb dL_refuses_497 (by decide +kernel) ?_
  refine lv_goto (tgt := 502) C.hx C.hb dL_refuses_498 (by decide) ?_
  refine lv_istore (lv' := [(14, .int (nI 1)), (13, .int (nI 19)), (12, .int (nI 1)), (15, .int (nI 0)), (11, .int (-2147483648)), (10, .int (-2147483648)), (9, .int (-2147483648)), (8, .int (-2147483648)), (7, .int (-2147483648)), (6, .int (-2147483648)), (5, .int (nI 3)), (4, .int (nI (dfO g0 a a))), (3, .int (nI 2147483647)), (0, .ref (ad 70)), (1, .int (nI a)), (2, .int (nI b))]) C.hx C.hb dL_refuses_502 hl (by decide) rfl (fun ls hl => ?_)
  exact kk g z H locs ls hs hP hD hS hl

set_option maxRecDepth 100000 in
set_option maxHeartbeats 4000000 in
theorem tf_105 {p : Program} {l : Launch} {e : Env} {s : State} {m : MethodId} {args : Array Value} {below : List Frame} {meth : Method} {c : Code} {D : va_G} {cA : ClassId} {A : Nat → Prop} {ad : Nat → Nat} {Q : State → Prop} {g0 : Nat → Nat → Int32} {a t b : Nat} (ha : a ≤ 16) (hb9 : b ≤ 40) (hab : 0 < a → 0 < b) (C : lcx p l s m c cL_refuses 16 D cA A) (kk : ∀ (g : Nat → Nat → Int32) (z : Nat → Nat) (H : Heap) (locs : List Loc) (ls : Array Slot), SR g0 a t b g z → va_P D vwCl (rlW cA ad g z) H → va_D A (rlW cA ad g z) → va_S A s.heap H locs → lv_has ls 16 [(12, .int (nI 1)), (15, .int (nI 1)), (14, .int (nI 1)), (13, .int (nI 19)), (11, .int (-2147483648)), (10, .int (-2147483648)), (9, .int (-2147483648)), (8, .int (-2147483648)), (7, .int (-2147483648)), (6, .int (-2147483648)), (5, .int (nI 3)), (4, .int (nI (dfO g0 a a))), (3, .int (nI 2147483647)), (0, .ref (ad 70)), (1, .int (nI a)), (2, .int (nI b))] → W p l e rm_Lr s m args below meth c H locs 229 1374 Q (F0 m 630 ls [])) : ∀ (g : Nat → Nat → Int32) (z : Nat → Nat) (H : Heap) (locs : List Loc) (ls : Array Slot), SR g0 a t b g z → va_P D vwCl (rlW cA ad g z) H → va_D A (rlW cA ad g z) → va_S A s.heap H locs → lv_has ls 16 [(14, .int (nI 1)), (13, .int (nI 19)), (12, .int (nI 1)), (15, .int (nI 0)), (11, .int (-2147483648)), (10, .int (-2147483648)), (9, .int (-2147483648)), (8, .int (-2147483648)), (7, .int (-2147483648)), (6, .int (-2147483648)), (5, .int (nI 3)), (4, .int (nI (dfO g0 a a))), (3, .int (nI 2147483647)), (0, .ref (ad 70)), (1, .int (nI a)), (2, .int (nI b))] → W p l e rm_Lr s m args below meth c H locs 225 1350 Q (F0 m 504 ls []) := by
  intro g z H locs ls hs hP hD hS hl
  refine lv_iload C.hx C.hb dL_refuses_504 (lv_at hl 1 rfl) ?_
  refine lv_iconst (v := nI 3) C.hx C.hb dL_refuses_506 (by decide +kernel) ?_
  refine lv_icmp_eq (tgt := 531) C.hx C.hb dL_refuses_507 (by decide) (fun c9 => absurd c9 (by decide +kernel)) (fun _ => ?_)
  refine lv_iload C.hx C.hb dL_refuses_510 (lv_at hl 1 rfl) ?_
  refine lv_bipush (v := nI 7) C.hx C.hb dL_refuses_512 (by decide +kernel) ?_
  refine lv_icmp_le (tgt := 524) C.hx C.hb dL_refuses_514 (by decide) (fun c9 => absurd c9 (by decide +kernel)) (fun _ => ?_)
  refine lv_iload C.hx C.hb dL_refuses_517 (lv_at hl 1 rfl) ?_
  refine lv_bipush (v := nI 13) C.hx C.hb dL_refuses_519 (by decide +kernel) ?_
  refine lv_icmp_lt (tgt := 531) C.hx C.hb dL_refuses_521 (by decide) (fun c9 => absurd c9 (by decide +kernel)) (fun _ => ?_)
  refine lv_iload C.hx C.hb dL_refuses_524 (lv_at hl 1 rfl) ?_
  refine lv_bipush (v := nI 19) C.hx C.hb dL_refuses_526 (by decide +kernel) ?_
  refine lv_icmp_ne (tgt := 535) C.hx C.hb dL_refuses_528 (by decide) (fun c9 => absurd c9 (by decide +kernel)) (fun _ => ?_)
  refine lv_iconst (v := nI 1) C.hx C.hb dL_refuses_531 (by decide +kernel) ?_
  refine lv_goto (tgt := 536) C.hx C.hb dL_refuses_532 (by decide) ?_
  refine lv_istore (lv' := [(15, .int (nI 1)), (14, .int (nI 1)), (13, .int (nI 19)), (12, .int (nI 1)), (11, .int (-2147483648)), (10, .int (-2147483648)), (9, .int (-2147483648)), (8, .int (-2147483648)), (7, .int (-2147483648)), (6, .int (-2147483648)), (5, .int (nI 3)), (4, .int (nI (dfO g0 a a))), (3, .int (nI 2147483647)), (0, .ref (ad 70)), (1, .int (nI a)), (2, .int (nI b))]) C.hx C.hb dL_refuses_536 hl (by decide) rfl (fun ls hl => ?_)
  refine lv_iload C.hx C.hb dL_refuses_538 (lv_at hl 1 rfl) ?_
  refine lv_if_eq (tgt := 567) C.hx C.hb dL_refuses_540 (by decide) (fun c9 => absurd c9 (by decide +kernel)) (fun _ => ?_)
  refine lv_aload_n C.hx C.hb dL_refuses_543 rfl (lv_at hl 13 rfl) ?_
  refine lv_iload C.hx C.hb dL_refuses_544 (lv_at hl 2 rfl) ?_
  refine lv_iload C.hx C.hb dL_refuses_546 (lv_at hl 7 rfl) ?_
  refine lv_iconst (v := nI 0) C.hx C.hb dL_refuses_548 (by decide +kernel) ?_
  refine lv_bipush (v := nI 99) C.hx C.hb dL_refuses_549 (by decide +kernel) ?_
  refine lv_iconst (v := nI 0) C.hx C.hb dL_refuses_551 (by decide +kernel) ?_
  refine q_cR (w := 19) (p0 := -2147483648) (p1 := nI 0) (p2 := nI 99) (p3 := nI 0) (r := -7000001) (c2 := 226) (s2 := 1356) C hs hP hD hS (ri_kin C.htr (notr (by decide +kernel) (by omega))) hl rfl (Nat.le_of_ble_eq_true rfl) ⟨Nat.le_of_ble_eq_true rfl, Nat.le_of_ble_eq_true rfl⟩ ⟨Nat.le_of_ble_eq_true rfl, Nat.le_of_ble_eq_true rfl⟩ ⟨Nat.le_of_ble_eq_true rfl, Nat.le_of_ble_eq_true rfl⟩ dL_refuses_552 (fun g z H locs hs hP hD hS => ?_)
  refine lv_ldc (v := -7000001) C.hx C.hb C.hown (C.hT.use kk_L_90 args) dL_refuses_555 ?_
  refine lv_icmp_ne (tgt := 564) C.hx C.hb dL_refuses_557 (by decide) (fun c9 => absurd c9 (by decide +kernel)) (fun _ => ?_)
  refine lv_iconst (v := nI 1) C.hx C.hb dL_refuses_560 (by decide +kernel) ?_
  refine lv_goto (tgt := 565) C.hx C.hb dL_refuses_561 (by decide) ?_
  refine lv_istore (lv' := [(12, .int (nI 1)), (15, .int (nI 1)), (14, .int (nI 1)), (13, .int (nI 19)), (11, .int (-2147483648)), (10, .int (-2147483648)), (9, .int (-2147483648)), (8, .int (-2147483648)), (7, .int (-2147483648)), (6, .int (-2147483648)), (5, .int (nI 3)), (4, .int (nI (dfO g0 a a))), (3, .int (nI 2147483647)), (0, .ref (ad 70)), (1, .int (nI a)), (2, .int (nI b))]) C.hx C.hb dL_refuses_565 hl (by decide) rfl (fun ls hl => ?_)
  refine lv_iload C.hx C.hb dL_refuses_567 (lv_at hl 1 rfl) ?_
  refine lv_if_eq (tgt := 637) C.hx C.hb dL_refuses_569 (by decide) (fun c9 => absurd c9 (by decide +kernel)) (fun _ => ?_)
  refine lv_iload C.hx C.hb dL_refuses_572 (lv_at hl 0 rfl) ?_
  refine lv_if_eq (tgt := 634) C.hx C.hb dL_refuses_574 (by decide) (fun c9 => absurd c9 (by decide +kernel)) (fun _ => ?_)
  refine lv_aload_n C.hx C.hb dL_refuses_577 rfl (lv_at hl 13 rfl) ?_
  refine lv_iload C.hx C.hb dL_refuses_578 (lv_at hl 3 rfl) ?_
  refine lv_iconst (v := nI 0) C.hx C.hb dL_refuses_580 (by decide +kernel) ?_
  refine lv_iload C.hx C.hb dL_refuses_581 (lv_at hl 7 rfl) ?_
  refine lv_bipush (v := nI 99) C.hx C.hb dL_refuses_583 (by decide +kernel) ?_
  refine lv_iconst (v := nI 0) C.hx C.hb dL_refuses_585 (by decide +kernel) ?_
  refine q_cR (w := 19) (p0 := nI 0) (p1 := -2147483648) (p2 := nI 99) (p3 := nI 0) (r := -7000001) (c2 := 227) (s2 := 1362) C hs hP hD hS (rj_kin C.htr (notr (by decide +kernel) (by omega))) hl rfl (Nat.le_of_ble_eq_true rfl) ⟨Nat.le_of_ble_eq_true rfl, Nat.le_of_ble_eq_true rfl⟩ ⟨Nat.le_of_ble_eq_true rfl, Nat.le_of_ble_eq_true rfl⟩ ⟨Nat.le_of_ble_eq_true rfl, Nat.le_of_ble_eq_true rfl⟩ dL_refuses_586 (fun g z H locs hs hP hD hS => ?_)
  refine lv_ldc (v := -7000001) C.hx C.hb C.hown (C.hT.use kk_L_90 args) dL_refuses_589 ?_
  refine lv_icmp_ne (tgt := 634) C.hx C.hb dL_refuses_591 (by decide) (fun c9 => absurd c9 (by decide +kernel)) (fun _ => ?_)
  refine lv_aload_n C.hx C.hb dL_refuses_594 rfl (lv_at hl 13 rfl) ?_
  refine lv_iload C.hx C.hb dL_refuses_595 (lv_at hl 3 rfl) ?_
  refine lv_iload C.hx C.hb dL_refuses_597 (lv_at hl 7 rfl) ?_
  refine lv_iload C.hx C.hb dL_refuses_599 (lv_at hl 7 rfl) ?_
  refine lv_iconst (v := nI 0) C.hx C.hb dL_refuses_601 (by decide +kernel) ?_
  refine lv_iconst (v := nI 0) C.hx C.hb dL_refuses_602 (by decide +kernel) ?_
  refine q_cR (w := 19) (p0 := -2147483648) (p1 := -2147483648) (p2 := nI 0) (p3 := nI 0) (r := -7000001) (c2 := 228) (s2 := 1368) C hs hP hD hS (ri_kin C.htr (notr (by decide +kernel) (by omega))) hl rfl (Nat.le_of_ble_eq_true rfl) ⟨Nat.le_of_ble_eq_true rfl, Nat.le_of_ble_eq_true rfl⟩ ⟨Nat.le_of_ble_eq_true rfl, Nat.le_of_ble_eq_true rfl⟩ ⟨Nat.le_of_ble_eq_true rfl, Nat.le_of_ble_eq_true rfl⟩ dL_refuses_603 (fun g z H locs hs hP hD hS => ?_)
  refine lv_ldc (v := -7000001) C.hx C.hb C.hown (C.hT.use kk_L_90 args) dL_refuses_606 ?_
  refine lv_icmp_ne (tgt := 634) C.hx C.hb dL_refuses_608 (by decide) (fun c9 => absurd c9 (by decide +kernel)) (fun _ => ?_)
  refine lv_iload_n C.hx C.hb dL_refuses_611 rfl (lv_at hl 14 rfl) ?_
  refine lv_if_eq (tgt := 630) C.hx C.hb dL_refuses_612 (by decide) (fun c9 => ?_) (fun c9 => ?_)
  · refine W.widen (k := 229) (n := 1374) (Nat.le_of_ble_eq_true rfl) (Nat.le_of_ble_eq_true rfl) ?_
    exact kk g z H locs ls hs hP hD hS hl
  · have ha0 : 0 < a := Nat.pos_of_ne_zero (fun q => c9 (by rw [q]; rfl))
    have hb0 : 0 < b := hab ha0
    refine lv_aload_n C.hx C.hb dL_refuses_615 rfl (lv_at hl 13 rfl) ?_
    refine lv_iload C.hx C.hb dL_refuses_616 (lv_at hl 3 rfl) ?_
    refine lv_iconst (v := nI 0) C.hx C.hb dL_refuses_618 (by decide +kernel) ?_
    refine lv_iconst (v := nI 0) C.hx C.hb dL_refuses_619 (by decide +kernel) ?_
    refine lv_iconst (v := nI 0) C.hx C.hb dL_refuses_620 (by decide +kernel) ?_
    refine lv_iconst (v := nI 0) C.hx C.hb dL_refuses_621 (by decide +kernel) ?_
    refine q_cR (w := 19) (p0 := nI 0) (p1 := nI 0) (p2 := nI 0) (p3 := nI 0) (r := -7000002) (c2 := 229) (s2 := 1374) C hs hP hD hS (rs_kin C.htr (q_r_nI (by omega))) hl rfl (Nat.le_of_ble_eq_true rfl) ⟨Nat.le_of_ble_eq_true rfl, Nat.le_of_ble_eq_true rfl⟩ ⟨Nat.le_of_ble_eq_true rfl, Nat.le_of_ble_eq_true rfl⟩ ⟨Nat.le_of_ble_eq_true rfl, Nat.le_of_ble_eq_true rfl⟩ dL_refuses_622 (fun g z H locs hs hP hD hS => ?_)
    refine lv_ldc (v := -7000002) C.hx C.hb C.hown (C.hT.use kk_L_93 args) dL_refuses_625 ?_
    refine lv_icmp_ne (tgt := 634) C.hx C.hb dL_refuses_627 (by decide) (fun c9 => absurd c9 (by decide +kernel)) (fun _ => ?_)
    exact kk g z H locs ls hs hP hD hS hl

set_option maxRecDepth 100000 in
set_option maxHeartbeats 4000000 in
theorem tf_106 {p : Program} {l : Launch} {e : Env} {s : State} {m : MethodId} {args : Array Value} {below : List Frame} {meth : Method} {c : Code} {D : va_G} {cA : ClassId} {A : Nat → Prop} {ad : Nat → Nat} {Q : State → Prop} {g0 : Nat → Nat → Int32} {a t b : Nat} (ha : a ≤ 16) (hb9 : b ≤ 40) (hab : 0 < a → 0 < b) (C : lcx p l s m c cL_refuses 16 D cA A) (kk : ∀ (g : Nat → Nat → Int32) (z : Nat → Nat) (H : Heap) (locs : List Loc) (ls : Array Slot), SR g0 a t b g z → va_P D vwCl (rlW cA ad g z) H → va_D A (rlW cA ad g z) → va_S A s.heap H locs → lv_has ls 16 [(13, .int (nI 20)), (12, .int (nI 1)), (15, .int (nI 1)), (14, .int (nI 1)), (11, .int (-2147483648)), (10, .int (-2147483648)), (9, .int (-2147483648)), (8, .int (-2147483648)), (7, .int (-2147483648)), (6, .int (-2147483648)), (5, .int (nI 3)), (4, .int (nI (dfO g0 a a))), (3, .int (nI 2147483647)), (0, .ref (ad 70)), (1, .int (nI a)), (2, .int (nI b))] → W p l e rm_Lr s m args below meth c H locs 230 1380 Q (F0 m 733 ls [])) : ∀ (g : Nat → Nat → Int32) (z : Nat → Nat) (H : Heap) (locs : List Loc) (ls : Array Slot), SR g0 a t b g z → va_P D vwCl (rlW cA ad g z) H → va_D A (rlW cA ad g z) → va_S A s.heap H locs → lv_has ls 16 [(12, .int (nI 1)), (15, .int (nI 1)), (14, .int (nI 1)), (13, .int (nI 19)), (11, .int (-2147483648)), (10, .int (-2147483648)), (9, .int (-2147483648)), (8, .int (-2147483648)), (7, .int (-2147483648)), (6, .int (-2147483648)), (5, .int (nI 3)), (4, .int (nI (dfO g0 a a))), (3, .int (nI 2147483647)), (0, .ref (ad 70)), (1, .int (nI a)), (2, .int (nI b))] → W p l e rm_Lr s m args below meth c H locs 229 1374 Q (F0 m 630 ls []) := by
  intro g z H locs ls hs hP hD hS hl
  refine lv_iconst (v := nI 1) C.hx C.hb dL_refuses_630 (by decide +kernel) ?_
  refine lv_goto (tgt := 635) C.hx C.hb dL_refuses_631 (by decide) ?_
  refine lv_istore (lv' := [(12, .int (nI 1)), (15, .int (nI 1)), (14, .int (nI 1)), (13, .int (nI 19)), (11, .int (-2147483648)), (10, .int (-2147483648)), (9, .int (-2147483648)), (8, .int (-2147483648)), (7, .int (-2147483648)), (6, .int (-2147483648)), (5, .int (nI 3)), (4, .int (nI (dfO g0 a a))), (3, .int (nI 2147483647)), (0, .ref (ad 70)), (1, .int (nI a)), (2, .int (nI b))]) C.hx C.hb dL_refuses_635 hl (by decide) rfl (fun ls hl => ?_)
  refine lv_iload C.hx C.hb dL_refuses_637 (lv_at hl 3 rfl) ?_
  refine lv_bipush (v := nI 15) C.hx C.hb dL_refuses_639 (by decide +kernel) ?_
  refine lv_icmp_eq (tgt := 658) C.hx C.hb dL_refuses_641 (by decide) (fun c9 => absurd c9 (by decide +kernel)) (fun _ => ?_)
  refine lv_iload C.hx C.hb dL_refuses_644 (lv_at hl 3 rfl) ?_
  refine lv_bipush (v := nI 16) C.hx C.hb dL_refuses_646 (by decide +kernel) ?_
  refine lv_icmp_eq (tgt := 658) C.hx C.hb dL_refuses_648 (by decide) (fun c9 => absurd c9 (by decide +kernel)) (fun _ => ?_)
  refine lv_iload C.hx C.hb dL_refuses_651 (lv_at hl 3 rfl) ?_
  refine lv_bipush (v := nI 18) C.hx C.hb dL_refuses_653 (by decide +kernel) ?_
  refine lv_icmp_ne (tgt := 681) C.hx C.hb dL_refuses_655 (by decide) (fun _ => ?_) (fun c9 => absurd c9 (by decide +kernel))
  refine lv_iinc (v := nI 20) (lv' := [(13, .int (nI 20)), (12, .int (nI 1)), (15, .int (nI 1)), (14, .int (nI 1)), (11, .int (-2147483648)), (10, .int (-2147483648)), (9, .int (-2147483648)), (8, .int (-2147483648)), (7, .int (-2147483648)), (6, .int (-2147483648)), (5, .int (nI 3)), (4, .int (nI (dfO g0 a a))), (3, .int (nI 2147483647)), (0, .ref (ad 70)), (1, .int (nI a)), (2, .int (nI b))]) C.hx C.hb dL_refuses_681 hl (k := 3) rfl (by decide +kernel) (by decide) rfl (fun ls hl => ?_)
  refine lv_goto (tgt := 459) C.hx C.hb dL_refuses_684 (by decide) ?_
  refine lv_iload C.hx C.hb dL_refuses_459 (lv_at hl 0 rfl) ?_
  refine lv_bipush (v := nI 20) C.hx C.hb dL_refuses_461 (by decide +kernel) ?_
  refine lv_icmp_ge (tgt := 687) C.hx C.hb dL_refuses_463 (by decide) (fun _ => ?_) (fun c9 => absurd c9 (by decide +kernel))
  refine lv_iload C.hx C.hb dL_refuses_687 (lv_at hl 1 rfl) ?_
  refine lv_if_eq (tgt := 737) C.hx C.hb dL_refuses_689 (by decide) (fun c9 => absurd c9 (by decide +kernel)) (fun _ => ?_)
  refine lv_iload_n C.hx C.hb dL_refuses_692 rfl (lv_at hl 14 rfl) ?_
  refine lv_iconst (v := nI 2) C.hx C.hb dL_refuses_693 (by decide +kernel) ?_
  refine lv_icmp_lt (tgt := 733) C.hx C.hb dL_refuses_694 (by decide) (fun c9 => ?_) (fun c9 => ?_)
  · refine W.widen (k := 230) (n := 1380) (Nat.le_of_ble_eq_true rfl) (Nat.le_of_ble_eq_true rfl) ?_
    exact kk g z H locs ls hs hP hD hS hl
  · have h2 : 2 ≤ a := by rw [Int32.lt_iff_toInt_lt, nI_toInt (by omega), nI_toInt (by omega)] at c9; omega
    refine lv_aload_n C.hx C.hb dL_refuses_697 rfl (lv_at hl 13 rfl) ?_
    refine lv_iconst (v := nI 3) C.hx C.hb dL_refuses_698 (by decide +kernel) ?_
    refine lv_iconst (v := nI 0) C.hx C.hb dL_refuses_699 (by decide +kernel) ?_
    refine lv_iconst (v := nI 1) C.hx C.hb dL_refuses_700 (by decide +kernel) ?_
    refine lv_iload C.hx C.hb dL_refuses_701 (lv_at hl 10 rfl) ?_
    refine lv_if_ne (tgt := 711) C.hx C.hb dL_refuses_703 (by decide) (fun _ => ?_) (fun c9 => absurd c9 (by decide +kernel))
    refine lv_iload C.hx C.hb dL_refuses_711 (lv_at hl 10 rfl) ?_
    refine lv_iconst (v := nI 1) C.hx C.hb dL_refuses_713 (by decide +kernel) ?_
    refine lv_icmp_ne (tgt := 722) C.hx C.hb dL_refuses_714 (by decide) (fun _ => ?_) (fun c9 => absurd c9 (by decide +kernel))
    refine lv_iload C.hx C.hb dL_refuses_722 (lv_at hl 9 rfl) ?_
    refine lv_iconst (v := nI 0) C.hx C.hb dL_refuses_724 (by decide +kernel) ?_
    refine q_cR (w := 3) (p0 := nI 0) (p1 := nI 1) (p2 := -2147483648) (p3 := nI 0) (r := -7000002) (c2 := 230) (s2 := 1380) C hs hP hD hS (rg_ahead (i := 0) (j := 1) C.htr (by omega) (by omega) (by decide) (by decide +kernel)) hl rfl (Nat.le_of_ble_eq_true rfl) ⟨Nat.le_of_ble_eq_true rfl, Nat.le_of_ble_eq_true rfl⟩ ⟨Nat.le_of_ble_eq_true rfl, Nat.le_of_ble_eq_true rfl⟩ ⟨Nat.le_of_ble_eq_true rfl, Nat.le_of_ble_eq_true rfl⟩ dL_refuses_725 (fun g z H locs hs hP hD hS => ?_)
    refine lv_ldc (v := -7000002) C.hx C.hb C.hown (C.hT.use kk_L_93 args) dL_refuses_728 ?_
    refine lv_icmp_ne (tgt := 737) C.hx C.hb dL_refuses_730 (by decide) (fun c9 => absurd c9 (by decide +kernel)) (fun _ => ?_)
    exact kk g z H locs ls hs hP hD hS hl

set_option maxRecDepth 100000 in
set_option maxHeartbeats 4000000 in
theorem tf_107 {p : Program} {l : Launch} {e : Env} {s : State} {m : MethodId} {args : Array Value} {below : List Frame} {meth : Method} {c : Code} {D : va_G} {cA : ClassId} {A : Nat → Prop} {ad : Nat → Nat} {Q : State → Prop} {g0 : Nat → Nat → Int32} {a t b : Nat} (ha : a ≤ 16) (hb9 : b ≤ 40) (hab : 0 < a → 0 < b) (C : lcx p l s m c cL_refuses 16 D cA A) (kk : ∀ (g : Nat → Nat → Int32) (z : Nat → Nat) (H : Heap) (locs : List Loc) (ls : Array Slot), SR g0 a t b g z → va_P D vwCl (rlW cA ad g z) H → va_D A (rlW cA ad g z) → va_S A s.heap H locs → lv_has ls 16 [(12, .int (nI 1)), (13, .int (nI 20)), (15, .int (nI 1)), (14, .int (nI 1)), (11, .int (-2147483648)), (10, .int (-2147483648)), (9, .int (-2147483648)), (8, .int (-2147483648)), (7, .int (-2147483648)), (6, .int (-2147483648)), (5, .int (nI 3)), (4, .int (nI (dfO g0 a a))), (3, .int (nI 2147483647)), (0, .ref (ad 70)), (1, .int (nI a)), (2, .int (nI b))] → W p l e rm_Lr s m args below meth c H locs 236 1416 Q (F0 m 931 ls [])) : ∀ (g : Nat → Nat → Int32) (z : Nat → Nat) (H : Heap) (locs : List Loc) (ls : Array Slot), SR g0 a t b g z → va_P D vwCl (rlW cA ad g z) H → va_D A (rlW cA ad g z) → va_S A s.heap H locs → lv_has ls 16 [(13, .int (nI 20)), (12, .int (nI 1)), (15, .int (nI 1)), (14, .int (nI 1)), (11, .int (-2147483648)), (10, .int (-2147483648)), (9, .int (-2147483648)), (8, .int (-2147483648)), (7, .int (-2147483648)), (6, .int (-2147483648)), (5, .int (nI 3)), (4, .int (nI (dfO g0 a a))), (3, .int (nI 2147483647)), (0, .ref (ad 70)), (1, .int (nI a)), (2, .int (nI b))] → W p l e rm_Lr s m args below meth c H locs 230 1380 Q (F0 m 733 ls []) := by
  intro g z H locs ls hs hP hD hS hl
  refine lv_iconst (v := nI 1) C.hx C.hb dL_refuses_733 (by decide +kernel) ?_
  refine lv_goto (tgt := 738) C.hx C.hb dL_refuses_734 (by decide) ?_
  refine lv_istore (lv' := [(12, .int (nI 1)), (13, .int (nI 20)), (15, .int (nI 1)), (14, .int (nI 1)), (11, .int (-2147483648)), (10, .int (-2147483648)), (9, .int (-2147483648)), (8, .int (-2147483648)), (7, .int (-2147483648)), (6, .int (-2147483648)), (5, .int (nI 3)), (4, .int (nI (dfO g0 a a))), (3, .int (nI 2147483647)), (0, .ref (ad 70)), (1, .int (nI a)), (2, .int (nI b))]) C.hx C.hb dL_refuses_738 hl (by decide) rfl (fun ls hl => ?_)
  refine lv_iload C.hx C.hb dL_refuses_740 (lv_at hl 0 rfl) ?_
  refine lv_if_eq (tgt := 935) C.hx C.hb dL_refuses_742 (by decide) (fun c9 => absurd c9 (by decide +kernel)) (fun _ => ?_)
  refine lv_iload_n C.hx C.hb dL_refuses_745 rfl (lv_at hl 14 rfl) ?_
  refine lv_if_eq (tgt := 931) C.hx C.hb dL_refuses_746 (by decide) (fun c9 => ?_) (fun c9 => ?_)
  · refine W.widen (k := 236) (n := 1416) (Nat.le_of_ble_eq_true rfl) (Nat.le_of_ble_eq_true rfl) ?_
    exact kk g z H locs ls hs hP hD hS hl
  · have ha0 : 0 < a := Nat.pos_of_ne_zero (fun q => c9 (by rw [q]; rfl))
    have hb0 : 0 < b := hab ha0
    refine lv_aload_n C.hx C.hb dL_refuses_749 rfl (lv_at hl 13 rfl) ?_
    refine lv_iconst (v := nI 4) C.hx C.hb dL_refuses_750 (by decide +kernel) ?_
    refine lv_iconst (v := nI 0) C.hx C.hb dL_refuses_751 (by decide +kernel) ?_
    refine lv_iload C.hx C.hb dL_refuses_752 (lv_at hl 10 rfl) ?_
    refine lv_iconst (v := nI 1) C.hx C.hb dL_refuses_754 (by decide +kernel) ?_
    refine lv_icmp_ne (tgt := 764) C.hx C.hb dL_refuses_755 (by decide) (fun _ => ?_) (fun c9 => absurd c9 (by decide +kernel))
    refine lv_iload C.hx C.hb dL_refuses_764 (lv_at hl 9 rfl) ?_
    refine lv_sipush (v := nI 999) C.hx C.hb dL_refuses_766 (by decide +kernel) ?_
    refine lv_iconst (v := nI 0) C.hx C.hb dL_refuses_769 (by decide +kernel) ?_
    refine q_cR (w := 4) (p0 := nI 0) (p1 := -2147483648) (p2 := nI 999) (p3 := nI 0) (r := -7000002) (c2 := 231) (s2 := 1386) C hs hP hD hS (rl_find C.htr (q_r_nI (by omega)) (by decide +kernel)) hl rfl (Nat.le_of_ble_eq_true rfl) ⟨Nat.le_of_ble_eq_true rfl, Nat.le_of_ble_eq_true rfl⟩ ⟨Nat.le_of_ble_eq_true rfl, Nat.le_of_ble_eq_true rfl⟩ ⟨Nat.le_of_ble_eq_true rfl, Nat.le_of_ble_eq_true rfl⟩ dL_refuses_770 (fun g z H locs hs hP hD hS => ?_)
    refine lv_ldc (v := -7000002) C.hx C.hb C.hown (C.hT.use kk_L_93 args) dL_refuses_773 ?_
    refine lv_icmp_ne (tgt := 935) C.hx C.hb dL_refuses_775 (by decide) (fun c9 => absurd c9 (by decide +kernel)) (fun _ => ?_)
    refine lv_aload_n C.hx C.hb dL_refuses_778 rfl (lv_at hl 13 rfl) ?_
    refine lv_iconst (v := nI 4) C.hx C.hb dL_refuses_779 (by decide +kernel) ?_
    refine lv_iconst (v := nI 0) C.hx C.hb dL_refuses_780 (by decide +kernel) ?_
    refine lv_iconst (v := nI 5) C.hx C.hb dL_refuses_781 (by decide +kernel) ?_
    refine lv_iload C.hx C.hb dL_refuses_782 (lv_at hl 10 rfl) ?_
    refine lv_if_ne (tgt := 791) C.hx C.hb dL_refuses_784 (by decide) (fun _ => ?_) (fun c9 => absurd c9 (by decide +kernel))
    refine lv_iload C.hx C.hb dL_refuses_791 (lv_at hl 10 rfl) ?_
    refine lv_iconst (v := nI 1) C.hx C.hb dL_refuses_793 (by decide +kernel) ?_
    refine lv_icmp_ne (tgt := 803) C.hx C.hb dL_refuses_794 (by decide) (fun _ => ?_) (fun c9 => absurd c9 (by decide +kernel))
    refine lv_iload C.hx C.hb dL_refuses_803 (lv_at hl 9 rfl) ?_
    refine lv_iconst (v := nI 0) C.hx C.hb dL_refuses_805 (by decide +kernel) ?_
    refine q_cR (w := 4) (p0 := nI 0) (p1 := nI 5) (p2 := -2147483648) (p3 := nI 0) (r := -7000002) (c2 := 232) (s2 := 1392) C hs hP hD hS (rh_find C.htr (q_r_nI (by omega)) (by decide +kernel) (by decide +kernel)) hl rfl (Nat.le_of_ble_eq_true rfl) ⟨Nat.le_of_ble_eq_true rfl, Nat.le_of_ble_eq_true rfl⟩ ⟨Nat.le_of_ble_eq_true rfl, Nat.le_of_ble_eq_true rfl⟩ ⟨Nat.le_of_ble_eq_true rfl, Nat.le_of_ble_eq_true rfl⟩ dL_refuses_806 (fun g z H locs hs hP hD hS => ?_)
    refine lv_ldc (v := -7000002) C.hx C.hb C.hown (C.hT.use kk_L_93 args) dL_refuses_809 ?_
    refine lv_icmp_ne (tgt := 935) C.hx C.hb dL_refuses_811 (by decide) (fun c9 => absurd c9 (by decide +kernel)) (fun _ => ?_)
    refine lv_aload_n C.hx C.hb dL_refuses_814 rfl (lv_at hl 13 rfl) ?_
    refine lv_iconst (v := nI 5) C.hx C.hb dL_refuses_815 (by decide +kernel) ?_
    refine lv_iconst (v := nI 0) C.hx C.hb dL_refuses_816 (by decide +kernel) ?_
    refine lv_iload C.hx C.hb dL_refuses_817 (lv_at hl 10 rfl) ?_
    refine lv_iconst (v := nI 1) C.hx C.hb dL_refuses_819 (by decide +kernel) ?_
    refine lv_icmp_ne (tgt := 829) C.hx C.hb dL_refuses_820 (by decide) (fun _ => ?_) (fun c9 => absurd c9 (by decide +kernel))
    refine lv_iload C.hx C.hb dL_refuses_829 (lv_at hl 9 rfl) ?_
    refine lv_sipush (v := nI 999) C.hx C.hb dL_refuses_831 (by decide +kernel) ?_
    refine lv_iconst (v := nI 0) C.hx C.hb dL_refuses_834 (by decide +kernel) ?_
    refine q_cR (w := 5) (p0 := nI 0) (p1 := -2147483648) (p2 := nI 999) (p3 := nI 0) (r := -7000002) (c2 := 233) (s2 := 1398) C hs hP hD hS (rl_wouldMove C.htr (q_r_nI (by omega)) (by decide +kernel)) hl rfl (Nat.le_of_ble_eq_true rfl) ⟨Nat.le_of_ble_eq_true rfl, Nat.le_of_ble_eq_true rfl⟩ ⟨Nat.le_of_ble_eq_true rfl, Nat.le_of_ble_eq_true rfl⟩ ⟨Nat.le_of_ble_eq_true rfl, Nat.le_of_ble_eq_true rfl⟩ dL_refuses_835 (fun g z H locs hs hP hD hS => ?_)
    refine lv_ldc (v := -7000002) C.hx C.hb C.hown (C.hT.use kk_L_93 args) dL_refuses_838 ?_
    refine lv_icmp_ne (tgt := 935) C.hx C.hb dL_refuses_840 (by decide) (fun c9 => absurd c9 (by decide +kernel)) (fun _ => ?_)
    refine lv_aload_n C.hx C.hb dL_refuses_843 rfl (lv_at hl 13 rfl) ?_
    refine lv_iconst (v := nI 5) C.hx C.hb dL_refuses_844 (by decide +kernel) ?_
    refine lv_iconst (v := nI 0) C.hx C.hb dL_refuses_845 (by decide +kernel) ?_
    refine lv_iconst (v := nI 5) C.hx C.hb dL_refuses_846 (by decide +kernel) ?_
    refine lv_iload C.hx C.hb dL_refuses_847 (lv_at hl 10 rfl) ?_
    refine lv_if_ne (tgt := 856) C.hx C.hb dL_refuses_849 (by decide) (fun _ => ?_) (fun c9 => absurd c9 (by decide +kernel))
    refine lv_iload C.hx C.hb dL_refuses_856 (lv_at hl 10 rfl) ?_
    refine lv_iconst (v := nI 1) C.hx C.hb dL_refuses_858 (by decide +kernel) ?_
    refine lv_icmp_ne (tgt := 868) C.hx C.hb dL_refuses_859 (by decide) (fun _ => ?_) (fun c9 => absurd c9 (by decide +kernel))
    refine lv_iload C.hx C.hb dL_refuses_868 (lv_at hl 9 rfl) ?_
    refine lv_iconst (v := nI 0) C.hx C.hb dL_refuses_870 (by decide +kernel) ?_
    refine q_cR (w := 5) (p0 := nI 0) (p1 := nI 5) (p2 := -2147483648) (p3 := nI 0) (r := -7000002) (c2 := 234) (s2 := 1404) C hs hP hD hS (rh_wouldMove C.htr (q_r_nI (by omega)) (by decide +kernel) (by decide +kernel)) hl rfl (Nat.le_of_ble_eq_true rfl) ⟨Nat.le_of_ble_eq_true rfl, Nat.le_of_ble_eq_true rfl⟩ ⟨Nat.le_of_ble_eq_true rfl, Nat.le_of_ble_eq_true rfl⟩ ⟨Nat.le_of_ble_eq_true rfl, Nat.le_of_ble_eq_true rfl⟩ dL_refuses_871 (fun g z H locs hs hP hD hS => ?_)
    refine lv_ldc (v := -7000002) C.hx C.hb C.hown (C.hT.use kk_L_93 args) dL_refuses_874 ?_
    refine lv_icmp_ne (tgt := 935) C.hx C.hb dL_refuses_876 (by decide) (fun c9 => absurd c9 (by decide +kernel)) (fun _ => ?_)
    refine lv_aload_n C.hx C.hb dL_refuses_879 rfl (lv_at hl 13 rfl) ?_
    refine lv_bipush (v := nI 17) C.hx C.hb dL_refuses_880 (by decide +kernel) ?_
    refine lv_iconst (v := nI 0) C.hx C.hb dL_refuses_882 (by decide +kernel) ?_
    refine lv_iload C.hx C.hb dL_refuses_883 (lv_at hl 9 rfl) ?_
    refine lv_iconst (v := nI 0) C.hx C.hb dL_refuses_885 (by decide +kernel) ?_
    refine lv_iconst (v := nI 0) C.hx C.hb dL_refuses_886 (by decide +kernel) ?_
    refine q_cR (w := 17) (p0 := nI 0) (p1 := -2147483648) (p2 := nI 0) (p3 := nI 0) (r := -7000001) (c2 := 235) (s2 := 1410) C hs hP hD hS (rc_neg (k := 0) C.htr hb0 (by decide +kernel)) hl rfl (Nat.le_of_ble_eq_true rfl) ⟨Nat.le_of_ble_eq_true rfl, Nat.le_of_ble_eq_true rfl⟩ ⟨Nat.le_of_ble_eq_true rfl, Nat.le_of_ble_eq_true rfl⟩ ⟨Nat.le_of_ble_eq_true rfl, Nat.le_of_ble_eq_true rfl⟩ dL_refuses_887 (fun g z H locs hs hP hD hS => ?_)
    refine lv_iload C.hx C.hb dL_refuses_890 (lv_at hl 9 rfl) ?_
    refine lv_if_le (tgt := 899) C.hx C.hb dL_refuses_892 (by decide) (fun _ => ?_) (fun c9 => absurd c9 (by decide +kernel))
    refine lv_ldc (v := -7000001) C.hx C.hb C.hown (C.hT.use kk_L_90 args) dL_refuses_899 ?_
    refine lv_icmp_ne (tgt := 935) C.hx C.hb dL_refuses_901 (by decide) (fun c9 => absurd c9 (by decide +kernel)) (fun _ => ?_)
    refine lv_aload_n C.hx C.hb dL_refuses_904 rfl (lv_at hl 13 rfl) ?_
    refine lv_bipush (v := nI 23) C.hx C.hb dL_refuses_905 (by decide +kernel) ?_
    refine lv_iconst (v := nI 0) C.hx C.hb dL_refuses_907 (by decide +kernel) ?_
    refine lv_iload C.hx C.hb dL_refuses_908 (lv_at hl 10 rfl) ?_
    refine lv_iconst (v := nI 1) C.hx C.hb dL_refuses_910 (by decide +kernel) ?_
    refine lv_icmp_ne (tgt := 919) C.hx C.hb dL_refuses_911 (by decide) (fun _ => ?_) (fun c9 => absurd c9 (by decide +kernel))
    refine lv_iload C.hx C.hb dL_refuses_919 (lv_at hl 8 rfl) ?_
    refine lv_iconst (v := nI 0) C.hx C.hb dL_refuses_921 (by decide +kernel) ?_
    refine lv_iconst (v := nI 0) C.hx C.hb dL_refuses_922 (by decide +kernel) ?_
    refine q_cR (w := 23) (p0 := nI 0) (p1 := -2147483648) (p2 := nI 0) (p3 := nI 0) (r := -7000002) (c2 := 236) (s2 := 1416) C hs hP hD hS (rv_lb C.htr (q_r_nI (by omega)) (by decide +kernel)) hl rfl (Nat.le_of_ble_eq_true rfl) ⟨Nat.le_of_ble_eq_true rfl, Nat.le_of_ble_eq_true rfl⟩ ⟨Nat.le_of_ble_eq_true rfl, Nat.le_of_ble_eq_true rfl⟩ ⟨Nat.le_of_ble_eq_true rfl, Nat.le_of_ble_eq_true rfl⟩ dL_refuses_923 (fun g z H locs hs hP hD hS => ?_)
    refine lv_ldc (v := -7000002) C.hx C.hb C.hown (C.hT.use kk_L_93 args) dL_refuses_926 ?_
    refine lv_icmp_ne (tgt := 935) C.hx C.hb dL_refuses_928 (by decide) (fun c9 => absurd c9 (by decide +kernel)) (fun _ => ?_)
    exact kk g z H locs ls hs hP hD hS hl

set_option maxRecDepth 100000 in
set_option maxHeartbeats 4000000 in
theorem tf_108 {p : Program} {l : Launch} {e : Env} {s : State} {m : MethodId} {args : Array Value} {below : List Frame} {meth : Method} {c : Code} {D : va_G} {cA : ClassId} {A : Nat → Prop} {ad : Nat → Nat} {Q : State → Prop} {g0 : Nat → Nat → Int32} {a t b : Nat} (ha : a ≤ 16) (hb9 : b ≤ 40) (hab : 0 < a → 0 < b) (C : lcx p l s m c cL_refuses 16 D cA A) (kk : ∀ (g : Nat → Nat → Int32) (z : Nat → Nat) (H : Heap) (locs : List Loc) (ls : Array Slot), SR g0 a t b g z → va_P D vwCl (rlW cA ad g z) H → va_D A (rlW cA ad g z) → va_S A s.heap H locs → lv_has ls 16 [(5, .int (nI 4)), (12, .int (nI 1)), (13, .int (nI 20)), (15, .int (nI 1)), (14, .int (nI 1)), (11, .int (-2147483648)), (10, .int (-2147483648)), (9, .int (-2147483648)), (8, .int (-2147483648)), (7, .int (-2147483648)), (6, .int (-2147483648)), (4, .int (nI (dfO g0 a a))), (3, .int (nI 2147483647)), (0, .ref (ad 70)), (1, .int (nI a)), (2, .int (nI b))] → W p l e rm_Lr s m args below meth c H locs 238 1428 Q (F0 m 998 ls [])) : ∀ (g : Nat → Nat → Int32) (z : Nat → Nat) (H : Heap) (locs : List Loc) (ls : Array Slot), SR g0 a t b g z → va_P D vwCl (rlW cA ad g z) H → va_D A (rlW cA ad g z) → va_S A s.heap H locs → lv_has ls 16 [(12, .int (nI 1)), (13, .int (nI 20)), (15, .int (nI 1)), (14, .int (nI 1)), (11, .int (-2147483648)), (10, .int (-2147483648)), (9, .int (-2147483648)), (8, .int (-2147483648)), (7, .int (-2147483648)), (6, .int (-2147483648)), (5, .int (nI 3)), (4, .int (nI (dfO g0 a a))), (3, .int (nI 2147483647)), (0, .ref (ad 70)), (1, .int (nI a)), (2, .int (nI b))] → W p l e rm_Lr s m args below meth c H locs 236 1416 Q (F0 m 931 ls []) := by
  intro g z H locs ls hs hP hD hS hl
  refine lv_iconst (v := nI 1) C.hx C.hb dL_refuses_931 (by decide +kernel) ?_
  refine lv_goto (tgt := 936) C.hx C.hb dL_refuses_932 (by decide) ?_
  refine lv_istore (lv' := [(12, .int (nI 1)), (13, .int (nI 20)), (15, .int (nI 1)), (14, .int (nI 1)), (11, .int (-2147483648)), (10, .int (-2147483648)), (9, .int (-2147483648)), (8, .int (-2147483648)), (7, .int (-2147483648)), (6, .int (-2147483648)), (5, .int (nI 3)), (4, .int (nI (dfO g0 a a))), (3, .int (nI 2147483647)), (0, .ref (ad 70)), (1, .int (nI a)), (2, .int (nI b))]) C.hx C.hb dL_refuses_936 hl (by decide) rfl (fun ls hl => ?_)
  refine lv_iload C.hx C.hb dL_refuses_938 (lv_at hl 0 rfl) ?_
  refine lv_if_ne (tgt := 945) C.hx C.hb dL_refuses_940 (by decide) (fun _ => ?_) (fun c9 => absurd c9 (by decide +kernel))
  refine lv_iinc (v := nI 4) (lv' := [(5, .int (nI 4)), (12, .int (nI 1)), (13, .int (nI 20)), (15, .int (nI 1)), (14, .int (nI 1)), (11, .int (-2147483648)), (10, .int (-2147483648)), (9, .int (-2147483648)), (8, .int (-2147483648)), (7, .int (-2147483648)), (6, .int (-2147483648)), (4, .int (nI (dfO g0 a a))), (3, .int (nI 2147483647)), (0, .ref (ad 70)), (1, .int (nI a)), (2, .int (nI b))]) C.hx C.hb dL_refuses_945 hl (k := 10) rfl (by decide +kernel) (by decide) rfl (fun ls hl => ?_)
  refine lv_goto (tgt := 12) C.hx C.hb dL_refuses_948 (by decide) ?_
  refine lv_iload C.hx C.hb dL_refuses_12 (lv_at hl 0 rfl) ?_
  refine lv_iconst (v := nI 4) C.hx C.hb dL_refuses_14 (by decide +kernel) ?_
  refine lv_icmp_ge (tgt := 951) C.hx C.hb dL_refuses_15 (by decide) (fun _ => ?_) (fun c9 => absurd c9 (by decide +kernel))
  refine lv_aload_n C.hx C.hb dL_refuses_951 rfl (lv_at hl 13 rfl) ?_
  refine q_callIW (As := []) (r := nI (dfO g0 a a)) C.hx C.hb C.hml C.hown C.hT C.hK hP hD hS C.hA (df_SR hs) k_X5_differ kl_L_98 (q0 := 0) (ci := 5) rfl rfl rfl rfl hl rfl rfl (Nat.le_of_ble_eq_true rfl) ⟨⟨rfl, rfl⟩, Nat.le_of_ble_eq_true rfl, Nat.le_of_ble_eq_true rfl⟩ ⟨Nat.le_of_ble_eq_true rfl, Nat.le_of_ble_eq_true rfl⟩ dL_refuses_952 (fun H locs hP hD hS => ?_)
  refine lv_iload C.hx C.hb dL_refuses_955 (lv_at hl 11 rfl) ?_
  refine lv_icmp_ne (tgt := 1002) C.hx C.hb dL_refuses_957 (by decide) (fun c9 => absurd rfl c9) (fun _ => ?_)
  refine lv_iload_n C.hx C.hb dL_refuses_960 rfl (lv_at hl 14 rfl) ?_
  refine lv_bipush (v := nI 7) C.hx C.hb dL_refuses_961 (by decide +kernel) ?_
  refine lv_icmp_lt (tgt := 998) C.hx C.hb dL_refuses_963 (by decide) (fun c9 => ?_) (fun c9 => ?_)
  · refine W.widen (k := 238) (n := 1428) (Nat.le_of_ble_eq_true rfl) (Nat.le_of_ble_eq_true rfl) ?_
    exact kk g z H locs ls hs hP hD hS hl
  · have h7 : 7 ≤ a := by rw [Int32.lt_iff_toInt_lt, nI_toInt (by omega), nI_toInt (by omega)] at c9; omega
    refine lv_aload_n C.hx C.hb dL_refuses_966 rfl (lv_at hl 13 rfl) ?_
    refine lv_bipush (v := nI 21) C.hx C.hb dL_refuses_967 (by decide +kernel) ?_
    refine lv_bipush (v := nI 127) C.hx C.hb dL_refuses_969 (by decide +kernel) ?_
    refine lv_iconst (v := nI 0) C.hx C.hb dL_refuses_971 (by decide +kernel) ?_
    refine lv_iconst (v := nI 0) C.hx C.hb dL_refuses_972 (by decide +kernel) ?_
    refine lv_iconst (v := nI 0) C.hx C.hb dL_refuses_973 (by decide +kernel) ?_
    refine q_cR (w := 21) (p0 := nI 127) (p1 := nI 0) (p2 := nI 0) (p3 := nI 0) (r := -7000002) (c2 := 237) (s2 := 1422) C hs hP hD hS (ru_best (n := 127) C.htr (by have := Nat.pow_le_pow_right (show 0 < 2 by decide) h7; omega) (by decide +kernel)) hl rfl (Nat.le_of_ble_eq_true rfl) ⟨Nat.le_of_ble_eq_true rfl, Nat.le_of_ble_eq_true rfl⟩ ⟨Nat.le_of_ble_eq_true rfl, Nat.le_of_ble_eq_true rfl⟩ ⟨Nat.le_of_ble_eq_true rfl, Nat.le_of_ble_eq_true rfl⟩ dL_refuses_974 (fun g z H locs hs hP hD hS => ?_)
    refine lv_ldc (v := -7000002) C.hx C.hb C.hown (C.hT.use kk_L_93 args) dL_refuses_977 ?_
    refine lv_icmp_ne (tgt := 1002) C.hx C.hb dL_refuses_979 (by decide) (fun c9 => absurd c9 (by decide +kernel)) (fun _ => ?_)
    refine lv_aload_n C.hx C.hb dL_refuses_982 rfl (lv_at hl 13 rfl) ?_
    refine lv_bipush (v := nI 22) C.hx C.hb dL_refuses_983 (by decide +kernel) ?_
    refine lv_bipush (v := nI 127) C.hx C.hb dL_refuses_985 (by decide +kernel) ?_
    refine lv_iconst (v := nI 0) C.hx C.hb dL_refuses_987 (by decide +kernel) ?_
    refine lv_iconst (v := nI 0) C.hx C.hb dL_refuses_988 (by decide +kernel) ?_
    refine lv_iconst (v := nI 0) C.hx C.hb dL_refuses_989 (by decide +kernel) ?_
    refine q_cR (w := 22) (p0 := nI 127) (p1 := nI 0) (p2 := nI 0) (p3 := nI 0) (r := -7000002) (c2 := 238) (s2 := 1428) C hs hP hD hS (ru_bestAnew (n := 127) C.htr (by have := Nat.pow_le_pow_right (show 0 < 2 by decide) h7; omega) (by decide +kernel)) hl rfl (Nat.le_of_ble_eq_true rfl) ⟨Nat.le_of_ble_eq_true rfl, Nat.le_of_ble_eq_true rfl⟩ ⟨Nat.le_of_ble_eq_true rfl, Nat.le_of_ble_eq_true rfl⟩ ⟨Nat.le_of_ble_eq_true rfl, Nat.le_of_ble_eq_true rfl⟩ dL_refuses_990 (fun g z H locs hs hP hD hS => ?_)
    refine lv_ldc (v := -7000002) C.hx C.hb C.hown (C.hT.use kk_L_93 args) dL_refuses_993 ?_
    refine lv_icmp_ne (tgt := 1002) C.hx C.hb dL_refuses_995 (by decide) (fun c9 => absurd c9 (by decide +kernel)) (fun _ => ?_)
    exact kk g z H locs ls hs hP hD hS hl

set_option maxRecDepth 100000 in
set_option maxHeartbeats 4000000 in
theorem tf_end {p : Program} {l : Launch} {e : Env} {s : State} {m : MethodId} {args : Array Value} {below : List Frame} {meth : Method} {c : Code} {D : va_G} {cA : ClassId} {A : Nat → Prop} {ad : Nat → Nat} {g0 : Nat → Nat → Int32} {a t b : Nat} (ha : a ≤ 16) (hb9 : b ≤ 40) (hab : 0 < a → 0 < b) (C : lcx p l s m c cL_refuses 16 D cA A) (hr : meth.sig.returnType = some .boolean) (hlk : meth.locks = false) : ∀ (g : Nat → Nat → Int32) (z : Nat → Nat) (H : Heap) (locs : List Loc) (ls : Array Slot), SR g0 a t b g z → va_P D vwCl (rlW cA ad g z) H → va_D A (rlW cA ad g z) → va_S A s.heap H locs → lv_has ls 16 [(5, .int (nI 4)), (12, .int (nI 1)), (13, .int (nI 20)), (15, .int (nI 1)), (14, .int (nI 1)), (11, .int (-2147483648)), (10, .int (-2147483648)), (9, .int (-2147483648)), (8, .int (-2147483648)), (7, .int (-2147483648)), (6, .int (-2147483648)), (4, .int (nI (dfO g0 a a))), (3, .int (nI 2147483647)), (0, .ref (ad 70)), (1, .int (nI a)), (2, .int (nI b))] → W p l e rm_Lr s m args below meth c H locs 238 1428 (q_GL D (nI 1) (q_BG cA ad (SR g0 a t b)) A below args s 500 3000) (F0 m 998 ls []) := by
  intro g z H locs ls hs hP hD hS hl
  refine lv_iconst (v := nI 1) C.hx C.hb dL_refuses_998 (by decide +kernel) ?_
  refine lv_goto (tgt := 1003) C.hx C.hb dL_refuses_999 (by decide) ?_
  exact q_lzret C.hx C.hb hr hlk (Or.inr rfl) rfl ⟨g, z, rfl, hs⟩ hP hS (Nat.le_of_ble_eq_true rfl) (Nat.le_of_ble_eq_true rfl) dL_refuses_1003

theorem c_L_refuses {l : Launch} (htr : l.stackTraces = false) {D : va_G} {cA : ClassId} {ad : Nat → Nat} {g : Nat → Nat → Int32} {z : Nat → Nat} (hI : inv g z) : q_CL l yL_refuses [Cond.code yL_refuses cL_refuses 16 (some .boolean)] rm_Lr D cA [.ref (ad 70), .int (nI (z 0)), .int (nI (z 2))] (rlW cA ad g z) (nI 1) (q_BG cA ad (SR g (z 0) (z 1) (z 2))) := by
  refine q_startP RL (by decide +kernel) rfl (Nat.le_of_ble_eq_true rfl) ?_
  intro p e s m below meth c A args H locs ls hx hb hr hml hown hT hlk hP hK hD hA hS hl hX hN hZ
  have C : lcx p l s m c cL_refuses 16 D cA A := ⟨hx, hb, hml, hown, hT, hK, hA, hX, hN, hZ, htr⟩
  have ha : z 0 ≤ 16 := hI.hz0
  have hb9 : z 2 ≤ 40 := hI.hz2
  have hab : 0 < z 0 → 0 < z 2 := fun h => by
    obtain ⟨j, hj, -⟩ := hI.own 0 h
    omega
  have hs : SR g (z 0) (z 1) (z 2) g z := ⟨fun _ _ => rfl, rfl, rfl, rfl, hI⟩
  exact tf_0 ha hb9 hab C (tf_1 ha hb9 hab C (tf_2 ha hb9 hab C (tf_3 ha hb9 hab C (tf_4 ha hb9 hab C (tf_5 ha hb9 hab C (tf_6 ha hb9 hab C (tf_7 ha hb9 hab C (tf_8 ha hb9 hab C (tf_9 ha hb9 hab C (tf_10 ha hb9 hab C (tf_11 ha hb9 hab C (tf_12 ha hb9 hab C (tf_13 ha hb9 hab C (tf_14 ha hb9 hab C (tf_15 ha hb9 hab C (tf_16 ha hb9 hab C (tf_17 ha hb9 hab C (tf_18 ha hb9 hab C (tf_19 ha hb9 hab C (tf_20 ha hb9 hab C (tf_21 ha hb9 hab C (tf_22 ha hb9 hab C (tf_23 ha hb9 hab C (tf_24 ha hb9 hab C (tf_25 ha hb9 hab C (tf_26 ha hb9 hab C (tf_27 ha hb9 hab C (tf_28 ha hb9 hab C (tf_29 ha hb9 hab C (tf_30 ha hb9 hab C (tf_31 ha hb9 hab C (tf_32 ha hb9 hab C (tf_33 ha hb9 hab C (tf_34 ha hb9 hab C (tf_35 ha hb9 hab C (tf_36 ha hb9 hab C (tf_37 ha hb9 hab C (tf_38 ha hb9 hab C (tf_39 ha hb9 hab C (tf_40 ha hb9 hab C (tf_41 ha hb9 hab C (tf_42 ha hb9 hab C (tf_43 ha hb9 hab C (tf_44 ha hb9 hab C (tf_45 ha hb9 hab C (tf_46 ha hb9 hab C (tf_47 ha hb9 hab C (tf_48 ha hb9 hab C (tf_49 ha hb9 hab C (tf_50 ha hb9 hab C (tf_51 ha hb9 hab C (tf_52 ha hb9 hab C (tf_53 ha hb9 hab C (tf_54 ha hb9 hab C (tf_55 ha hb9 hab C (tf_56 ha hb9 hab C (tf_57 ha hb9 hab C (tf_58 ha hb9 hab C (tf_59 ha hb9 hab C (tf_60 ha hb9 hab C (tf_61 ha hb9 hab C (tf_62 ha hb9 hab C (tf_63 ha hb9 hab C (tf_64 ha hb9 hab C (tf_65 ha hb9 hab C (tf_66 ha hb9 hab C (tf_67 ha hb9 hab C (tf_68 ha hb9 hab C (tf_69 ha hb9 hab C (tf_70 ha hb9 hab C (tf_71 ha hb9 hab C (tf_72 ha hb9 hab C (tf_73 ha hb9 hab C (tf_74 ha hb9 hab C (tf_75 ha hb9 hab C (tf_76 ha hb9 hab C (tf_77 ha hb9 hab C (tf_78 ha hb9 hab C (tf_79 ha hb9 hab C (tf_80 ha hb9 hab C (tf_81 ha hb9 hab C (tf_82 ha hb9 hab C (tf_83 ha hb9 hab C (tf_84 ha hb9 hab C (tf_85 ha hb9 hab C (tf_86 ha hb9 hab C (tf_87 ha hb9 hab C (tf_88 ha hb9 hab C (tf_89 ha hb9 hab C (tf_90 ha hb9 hab C (tf_91 ha hb9 hab C (tf_92 ha hb9 hab C (tf_93 ha hb9 hab C (tf_94 ha hb9 hab C (tf_95 ha hb9 hab C (tf_96 ha hb9 hab C (tf_97 ha hb9 hab C (tf_98 ha hb9 hab C (tf_99 ha hb9 hab C (tf_100 ha hb9 hab C (tf_101 ha hb9 hab C (tf_102 ha hb9 hab C (tf_103 ha hb9 hab C (tf_104 ha hb9 hab C (tf_105 ha hb9 hab C (tf_106 ha hb9 hab C (tf_107 ha hb9 hab C (tf_108 ha hb9 hab C (tf_end ha hb9 hab C hr hlk))))))))))))))))))))))))))))))))))))))))))))))))))))))))))))))))))))))))))))))))))))))))))))))))))))))))))))) g z H locs ls hs hP hD hS hl
theorem cs_Lrefuses {l : Launch} (htr : l.stackTraces = false) {D : va_G} {cA : ClassId} {ad : Nat → Nat} {L : List (List Nat)} (a b : Nat) (h : (Nat.beq (cZ L 0) a && Nat.beq (cZ L 2) b) = true) : csl l yL_refuses [Cond.code yL_refuses cL_refuses 16 (some .boolean)] rm_Lr D cA ad [.int (nI a), .int (nI b)] L L (nI 1) := by
  intro g z hs
  have hs9 := hs
  obtain ⟨g', z', e1, e2, hI⟩ := hs9
  obtain ⟨h1, h2⟩ := band h
  have z0 : z 0 = a := by rw [e2]; exact Nat.eq_of_beq_eq_true h1
  have z2 : z 2 = b := by rw [e2]; exact Nat.eq_of_beq_eq_true h2
  have := c_L_refuses (l := l) htr (D := D) (cA := cA) (ad := ad) hI
  rw [z0, z2] at this
  refine this.mono rfl ?_
  rintro x ⟨g2, z3, hx, k1, k2, k3, k4, k5⟩
  exact ⟨g2, z3, hx, nx0 hs k1 ⟨k2.trans z0.symm, k3, k4.trans z2.symm⟩ k5⟩

