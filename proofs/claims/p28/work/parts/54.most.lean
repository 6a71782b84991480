abbrev rm_Lmost : Room := { frames := 11, cells := 1000, slots := 6000, locals := 250 }
set_option maxRecDepth 100000 in
set_option maxHeartbeats 4000000 in
theorem tr_most_0 {p : Program} {l : Launch} {e : Env} {s : State} {m : MethodId} {args : Array Value} {below : List Frame} {meth : Method} {c : Code} {D : va_G} {cA : ClassId} {A : Nat → Prop} {ad : Nat → Nat} {Q : State → Prop} (C : lcx p l s m c cL_most 2 D cA A) (kk : ∀ (g : Nat → Nat → Int32) (z : Nat → Nat) (H : Heap) (locs : List Loc) (ls : Array Slot), isL S41 g z → va_P D vwCl (rlW cA ad g z) H → va_D A (rlW cA ad g z) → va_S A s.heap H locs → lv_has ls 2 [(1, .int (nI 3)), (0, .ref (ad 70))] → W p l e rm_Lmost s m args below meth c H locs 70 997 Q (F0 m 45 ls [])) : ∀ (g : Nat → Nat → Int32) (z : Nat → Nat) (H : Heap) (locs : List Loc) (ls : Array Slot), isL S0 g z → va_P D vwCl (rlW cA ad g z) H → va_D A (rlW cA ad g z) → va_S A s.heap H locs → lv_has ls 2 [(0, .ref (ad 70))] → W p l e rm_Lmost s m args below meth c H locs 66 973 Q (F0 m 8 ls []) := by
  intro g z H locs ls hs hP hD hS hl
  refine lv_iconst (v := nI 0) C.hx C.hb dL_most_8 (by decide +kernel) ?_
  refine lv_istore_n (lv' := [(1, .int (nI 0)), (0, .ref (ad 70))]) C.hx C.hb dL_most_9 rfl hl (by decide) rfl (fun ls hl => ?_)
  refine lv_iload_n C.hx C.hb dL_most_10 rfl (lv_at hl 0 rfl) ?_
  refine lv_bipush (v := nI 17) C.hx C.hb dL_most_11 (by decide +kernel) ?_
  refine lv_icmp_ge (tgt := 51) C.hx C.hb dL_most_13 (by decide) (fun c9 => absurd c9 (by decide +kernel)) (fun _ => ?_)
  refine lv_aload_n C.hx C.hb dL_most_16 rfl (lv_at hl 1 rfl) ?_
  refine lv_iconst (v := nI 0) C.hx C.hb dL_most_17 (by decide +kernel) ?_
  refine lv_bipush (v := nI 9) C.hx C.hb dL_most_18 (by decide +kernel) ?_
  refine lv_bipush (v := nI 9) C.hx C.hb dL_most_20 (by decide +kernel) ?_
  refine lv_iconst (v := nI 5) C.hx C.hb dL_most_22 (by decide +kernel) ?_
  refine lv_bipush (v := nI 7) C.hx C.hb dL_most_23 (by decide +kernel) ?_
  refine q_cA (L := S0) (L' := S38) (r := nI 0) (c2 := 67) (s2 := 979) (As := [.int (nI 0), .int (nI 9), .int (nI 9), .int (nI 5), .int (nI 7)]) C hs hP hD hS (ca_mention (nI 9) (nI 9) (nI 5) (nI 7) (nI 0) (cs_mention S38 (nI 9) (nI 9) (nI 5) (nI 7) (Or.inr (q_r_nI (by decide))) 0 (by decide +kernel))) kl_L_102 hl rfl rfl (Nat.le_of_ble_eq_true rfl) ⟨Nat.le_of_ble_eq_true rfl, Nat.le_of_ble_eq_true rfl⟩ ⟨Nat.le_of_ble_eq_true rfl, Nat.le_of_ble_eq_true rfl⟩ ⟨Nat.le_of_ble_eq_true rfl, Nat.le_of_ble_eq_true rfl⟩ dL_most_25 (fun g z H locs hs hP hD hS => ?_)
  refine lv_iload_n C.hx C.hb dL_most_28 rfl (lv_at hl 0 rfl) ?_
  refine lv_bipush (v := nI 16) C.hx C.hb dL_most_29 (by decide +kernel) ?_
  refine lv_icmp_ge (tgt := 38) C.hx C.hb dL_most_31 (by decide) (fun c9 => absurd c9 (by decide +kernel)) (fun _ => ?_)
  refine lv_iload_n C.hx C.hb dL_most_34 rfl (lv_at hl 0 rfl) ?_
  refine lv_goto (tgt := 40) C.hx C.hb dL_most_35 (by decide) ?_
  refine lv_icmp_eq (tgt := 45) C.hx C.hb dL_most_40 (by decide) (fun _ => ?_) (fun c9 => absurd c9 (by decide +kernel))
  refine lv_iinc (v := nI 1) (lv' := [(1, .int (nI 1)), (0, .ref (ad 70))]) C.hx C.hb dL_most_45 hl (k := 0) rfl (by decide +kernel) (by decide) rfl (fun ls hl => ?_)
  refine lv_goto (tgt := 10) C.hx C.hb dL_most_48 (by decide) ?_
  refine lv_iload_n C.hx C.hb dL_most_10 rfl (lv_at hl 0 rfl) ?_
  refine lv_bipush (v := nI 17) C.hx C.hb dL_most_11 (by decide +kernel) ?_
  refine lv_icmp_ge (tgt := 51) C.hx C.hb dL_most_13 (by decide) (fun c9 => absurd c9 (by decide +kernel)) (fun _ => ?_)
  refine lv_aload_n C.hx C.hb dL_most_16 rfl (lv_at hl 1 rfl) ?_
  refine lv_iconst (v := nI 0) C.hx C.hb dL_most_17 (by decide +kernel) ?_
  refine lv_bipush (v := nI 9) C.hx C.hb dL_most_18 (by decide +kernel) ?_
  refine lv_bipush (v := nI 9) C.hx C.hb dL_most_20 (by decide +kernel) ?_
  refine lv_iconst (v := nI 5) C.hx C.hb dL_most_22 (by decide +kernel) ?_
  refine lv_bipush (v := nI 7) C.hx C.hb dL_most_23 (by decide +kernel) ?_
  refine q_cA (L := S38) (L' := S39) (r := nI 1) (c2 := 68) (s2 := 985) (As := [.int (nI 0), .int (nI 9), .int (nI 9), .int (nI 5), .int (nI 7)]) C hs hP hD hS (ca_mention (nI 9) (nI 9) (nI 5) (nI 7) (nI 1) (cs_mention S39 (nI 9) (nI 9) (nI 5) (nI 7) (Or.inr (q_r_nI (by decide))) 1 (by decide +kernel))) kl_L_102 hl rfl rfl (Nat.le_of_ble_eq_true rfl) ⟨Nat.le_of_ble_eq_true rfl, Nat.le_of_ble_eq_true rfl⟩ ⟨Nat.le_of_ble_eq_true rfl, Nat.le_of_ble_eq_true rfl⟩ ⟨Nat.le_of_ble_eq_true rfl, Nat.le_of_ble_eq_true rfl⟩ dL_most_25 (fun g z H locs hs hP hD hS => ?_)
  refine lv_iload_n C.hx C.hb dL_most_28 rfl (lv_at hl 0 rfl) ?_
  refine lv_bipush (v := nI 16) C.hx C.hb dL_most_29 (by decide +kernel) ?_
  refine lv_icmp_ge (tgt := 38) C.hx C.hb dL_most_31 (by decide) (fun c9 => absurd c9 (by decide +kernel)) (fun _ => ?_)
  refine lv_iload_n C.hx C.hb dL_most_34 rfl (lv_at hl 0 rfl) ?_
  refine lv_goto (tgt := 40) C.hx C.hb dL_most_35 (by decide) ?_
  refine lv_icmp_eq (tgt := 45) C.hx C.hb dL_most_40 (by decide) (fun _ => ?_) (fun c9 => absurd c9 (by decide +kernel))
  refine lv_iinc (v := nI 2) (lv' := [(1, .int (nI 2)), (0, .ref (ad 70))]) C.hx C.hb dL_most_45 hl (k := 0) rfl (by decide +kernel) (by decide) rfl (fun ls hl => ?_)
  refine lv_goto (tgt := 10) C.hx C.hb dL_most_48 (by decide) ?_
  refine lv_iload_n C.hx C.hb dL_most_10 rfl (lv_at hl 0 rfl) ?_
  refine lv_bipush (v := nI 17) C.hx C.hb dL_most_11 (by decide +kernel) ?_
  refine lv_icmp_ge (tgt := 51) C.hx C.hb dL_most_13 (by decide) (fun c9 => absurd c9 (by decide +kernel)) (fun _ => ?_)
  refine lv_aload_n C.hx C.hb dL_most_16 rfl (lv_at hl 1 rfl) ?_
  refine lv_iconst (v := nI 0) C.hx C.hb dL_most_17 (by decide +kernel) ?_
  refine lv_bipush (v := nI 9) C.hx C.hb dL_most_18 (by decide +kernel) ?_
  refine lv_bipush (v := nI 9) C.hx C.hb dL_most_20 (by decide +kernel) ?_
  refine lv_iconst (v := nI 5) C.hx C.hb dL_most_22 (by decide +kernel) ?_
  refine lv_bipush (v := nI 7) C.hx C.hb dL_most_23 (by decide +kernel) ?_
  refine q_cA (L := S39) (L' := S40) (r := nI 2) (c2 := 69) (s2 := 991) (As := [.int (nI 0), .int (nI 9), .int (nI 9), .int (nI 5), .int (nI 7)]) C hs hP hD hS (ca_mention (nI 9) (nI 9) (nI 5) (nI 7) (nI 2) (cs_mention S40 (nI 9) (nI 9) (nI 5) (nI 7) (Or.inr (q_r_nI (by decide))) 2 (by decide +kernel))) kl_L_102 hl rfl rfl (Nat.le_of_ble_eq_true rfl) ⟨Nat.le_of_ble_eq_true rfl, Nat.le_of_ble_eq_true rfl⟩ ⟨Nat.le_of_ble_eq_true rfl, Nat.le_of_ble_eq_true rfl⟩ ⟨Nat.le_of_ble_eq_true rfl, Nat.le_of_ble_eq_true rfl⟩ dL_most_25 (fun g z H locs hs hP hD hS => ?_)
  refine lv_iload_n C.hx C.hb dL_most_28 rfl (lv_at hl 0 rfl) ?_
  refine lv_bipush (v := nI 16) C.hx C.hb dL_most_29 (by decide +kernel) ?_
  refine lv_icmp_ge (tgt := 38) C.hx C.hb dL_most_31 (by decide) (fun c9 => absurd c9 (by decide +kernel)) (fun _ => ?_)
  refine lv_iload_n C.hx C.hb dL_most_34 rfl (lv_at hl 0 rfl) ?_
  refine lv_goto (tgt := 40) C.hx C.hb dL_most_35 (by decide) ?_
  refine lv_icmp_eq (tgt := 45) C.hx C.hb dL_most_40 (by decide) (fun _ => ?_) (fun c9 => absurd c9 (by decide +kernel))
  refine lv_iinc (v := nI 3) (lv' := [(1, .int (nI 3)), (0, .ref (ad 70))]) C.hx C.hb dL_most_45 hl (k := 0) rfl (by decide +kernel) (by decide) rfl (fun ls hl => ?_)
  refine lv_goto (tgt := 10) C.hx C.hb dL_most_48 (by decide) ?_
  refine lv_iload_n C.hx C.hb dL_most_10 rfl (lv_at hl 0 rfl) ?_
  refine lv_bipush (v := nI 17) C.hx C.hb dL_most_11 (by decide +kernel) ?_
  refine lv_icmp_ge (tgt := 51) C.hx C.hb dL_most_13 (by decide) (fun c9 => absurd c9 (by decide +kernel)) (fun _ => ?_)
  refine lv_aload_n C.hx C.hb dL_most_16 rfl (lv_at hl 1 rfl) ?_
  refine lv_iconst (v := nI 0) C.hx C.hb dL_most_17 (by decide +kernel) ?_
  refine lv_bipush (v := nI 9) C.hx C.hb dL_most_18 (by decide +kernel) ?_
  refine lv_bipush (v := nI 9) C.hx C.hb dL_most_20 (by decide +kernel) ?_
  refine lv_iconst (v := nI 5) C.hx C.hb dL_most_22 (by decide +kernel) ?_
  refine lv_bipush (v := nI 7) C.hx C.hb dL_most_23 (by decide +kernel) ?_
  refine q_cA (L := S40) (L' := S41) (r := nI 3) (c2 := 70) (s2 := 997) (As := [.int (nI 0), .int (nI 9), .int (nI 9), .int (nI 5), .int (nI 7)]) C hs hP hD hS (ca_mention (nI 9) (nI 9) (nI 5) (nI 7) (nI 3) (cs_mention S41 (nI 9) (nI 9) (nI 5) (nI 7) (Or.inr (q_r_nI (by decide))) 3 (by decide +kernel))) kl_L_102 hl rfl rfl (Nat.le_of_ble_eq_true rfl) ⟨Nat.le_of_ble_eq_true rfl, Nat.le_of_ble_eq_true rfl⟩ ⟨Nat.le_of_ble_eq_true rfl, Nat.le_of_ble_eq_true rfl⟩ ⟨Nat.le_of_ble_eq_true rfl, Nat.le_of_ble_eq_true rfl⟩ dL_most_25 (fun g z H locs hs hP hD hS => ?_)
  refine lv_iload_n C.hx C.hb dL_most_28 rfl (lv_at hl 0 rfl) ?_
  refine lv_bipush (v := nI 16) C.hx C.hb dL_most_29 (by decide +kernel) ?_
  refine lv_icmp_ge (tgt := 38) C.hx C.hb dL_most_31 (by decide) (fun c9 => absurd c9 (by decide +kernel)) (fun _ => ?_)
  refine lv_iload_n C.hx C.hb dL_most_34 rfl (lv_at hl 0 rfl) ?_
  refine lv_goto (tgt := 40) C.hx C.hb dL_most_35 (by decide) ?_
  refine lv_icmp_eq (tgt := 45) C.hx C.hb dL_most_40 (by decide) (fun _ => ?_) (fun c9 => absurd c9 (by decide +kernel))
  exact kk g z H locs ls hs hP hD hS hl

set_option maxRecDepth 100000 in
set_option maxHeartbeats 4000000 in
theorem tr_most_1 {p : Program} {l : Launch} {e : Env} {s : State} {m : MethodId} {args : Array Value} {below : List Frame} {meth : Method} {c : Code} {D : va_G} {cA : ClassId} {A : Nat → Prop} {ad : Nat → Nat} {Q : State → Prop} (C : lcx p l s m c cL_most 2 D cA A) (kk : ∀ (g : Nat → Nat → Int32) (z : Nat → Nat) (H : Heap) (locs : List Loc) (ls : Array Slot), isL S45 g z → va_P D vwCl (rlW cA ad g z) H → va_D A (rlW cA ad g z) → va_S A s.heap H locs → lv_has ls 2 [(1, .int (nI 7)), (0, .ref (ad 70))] → W p l e rm_Lmost s m args below meth c H locs 74 1021 Q (F0 m 45 ls [])) : ∀ (g : Nat → Nat → Int32) (z : Nat → Nat) (H : Heap) (locs : List Loc) (ls : Array Slot), isL S41 g z → va_P D vwCl (rlW cA ad g z) H → va_D A (rlW cA ad g z) → va_S A s.heap H locs → lv_has ls 2 [(1, .int (nI 3)), (0, .ref (ad 70))] → W p l e rm_Lmost s m args below meth c H locs 70 997 Q (F0 m 45 ls []) := by
  intro g z H locs ls hs hP hD hS hl
  refine lv_iinc (v := nI 4) (lv' := [(1, .int (nI 4)), (0, .ref (ad 70))]) C.hx C.hb dL_most_45 hl (k := 0) rfl (by decide +kernel) (by decide) rfl (fun ls hl => ?_)
  refine lv_goto (tgt := 10) C.hx C.hb dL_most_48 (by decide) ?_
  refine lv_iload_n C.hx C.hb dL_most_10 rfl (lv_at hl 0 rfl) ?_
  refine lv_bipush (v := nI 17) C.hx C.hb dL_most_11 (by decide +kernel) ?_
  refine lv_icmp_ge (tgt := 51) C.hx C.hb dL_most_13 (by decide) (fun c9 => absurd c9 (by decide +kernel)) (fun _ => ?_)
  refine lv_aload_n C.hx C.hb dL_most_16 rfl (lv_at hl 1 rfl) ?_
  refine lv_iconst (v := nI 0) C.hx C.hb dL_most_17 (by decide +kernel) ?_
  refine lv_bipush (v := nI 9) C.hx C.hb dL_most_18 (by decide +kernel) ?_
  refine lv_bipush (v := nI 9) C.hx C.hb dL_most_20 (by decide +kernel) ?_
  refine lv_iconst (v := nI 5) C.hx C.hb dL_most_22 (by decide +kernel) ?_
  refine lv_bipush (v := nI 7) C.hx C.hb dL_most_23 (by decide +kernel) ?_
  refine q_cA (L := S41) (L' := S42) (r := nI 4) (c2 := 71) (s2 := 1003) (As := [.int (nI 0), .int (nI 9), .int (nI 9), .int (nI 5), .int (nI 7)]) C hs hP hD hS (ca_mention (nI 9) (nI 9) (nI 5) (nI 7) (nI 4) (cs_mention S42 (nI 9) (nI 9) (nI 5) (nI 7) (Or.inr (q_r_nI (by decide))) 4 (by decide +kernel))) kl_L_102 hl rfl rfl (Nat.le_of_ble_eq_true rfl) ⟨Nat.le_of_ble_eq_true rfl, Nat.le_of_ble_eq_true rfl⟩ ⟨Nat.le_of_ble_eq_true rfl, Nat.le_of_ble_eq_true rfl⟩ ⟨Nat.le_of_ble_eq_true rfl, Nat.le_of_ble_eq_true rfl⟩ dL_most_25 (fun g z H locs hs hP hD hS => ?_)
  refine lv_iload_n C.hx C.hb dL_most_28 rfl (lv_at hl 0 rfl) ?_
  refine lv_bipush (v := nI 16) C.hx C.hb dL_most_29 (by decide +kernel) ?_
  refine lv_icmp_ge (tgt := 38) C.hx C.hb dL_most_31 (by decide) (fun c9 => absurd c9 (by decide +kernel)) (fun _ => ?_)
  refine lv_iload_n C.hx C.hb dL_most_34 rfl (lv_at hl 0 rfl) ?_
  refine lv_goto (tgt := 40) C.hx C.hb dL_most_35 (by decide) ?_
  refine lv_icmp_eq (tgt := 45) C.hx C.hb dL_most_40 (by decide) (fun _ => ?_) (fun c9 => absurd c9 (by decide +kernel))
  refine lv_iinc (v := nI 5) (lv' := [(1, .int (nI 5)), (0, .ref (ad 70))]) C.hx C.hb dL_most_45 hl (k := 0) rfl (by decide +kernel) (by decide) rfl (fun ls hl => ?_)
  refine lv_goto (tgt := 10) C.hx C.hb dL_most_48 (by decide) ?_
  refine lv_iload_n C.hx C.hb dL_most_10 rfl (lv_at hl 0 rfl) ?_
  refine lv_bipush (v := nI 17) C.hx C.hb dL_most_11 (by decide +kernel) ?_
  refine lv_icmp_ge (tgt := 51) C.hx C.hb dL_most_13 (by decide) (fun c9 => absurd c9 (by decide +kernel)) (fun _ => ?_)
  refine lv_aload_n C.hx C.hb dL_most_16 rfl (lv_at hl 1 rfl) ?_
  refine lv_iconst (v := nI 0) C.hx C.hb dL_most_17 (by decide +kernel) ?_
  refine lv_bipush (v := nI 9) C.hx C.hb dL_most_18 (by decide +kernel) ?_
  refine lv_bipush (v := nI 9) C.hx C.hb dL_most_20 (by decide +kernel) ?_
  refine lv_iconst (v := nI 5) C.hx C.hb dL_most_22 (by decide +kernel) ?_
  refine lv_bipush (v := nI 7) C.hx C.hb dL_most_23 (by decide +kernel) ?_
  refine q_cA (L := S42) (L' := S43) (r := nI 5) (c2 := 72) (s2 := 1009) (As := [.int (nI 0), .int (nI 9), .int (nI 9), .int (nI 5), .int (nI 7)]) C hs hP hD hS (ca_mention (nI 9) (nI 9) (nI 5) (nI 7) (nI 5) (cs_mention S43 (nI 9) (nI 9) (nI 5) (nI 7) (Or.inr (q_r_nI (by decide))) 5 (by decide +kernel))) kl_L_102 hl rfl rfl (Nat.le_of_ble_eq_true rfl) ⟨Nat.le_of_ble_eq_true rfl, Nat.le_of_ble_eq_true rfl⟩ ⟨Nat.le_of_ble_eq_true rfl, Nat.le_of_ble_eq_true rfl⟩ ⟨Nat.le_of_ble_eq_true rfl, Nat.le_of_ble_eq_true rfl⟩ dL_most_25 (fun g z H locs hs hP hD hS => ?_)
  refine lv_iload_n C.hx C.hb dL_most_28 rfl (lv_at hl 0 rfl) ?_
  refine lv_bipush (v := nI 16) C.hx C.hb dL_most_29 (by decide +kernel) ?_
  refine lv_icmp_ge (tgt := 38) C.hx C.hb dL_most_31 (by decide) (fun c9 => absurd c9 (by decide +kernel)) (fun _ => ?_)
  refine lv_iload_n C.hx C.hb dL_most_34 rfl (lv_at hl 0 rfl) ?_
  refine lv_goto (tgt := 40) C.hx C.hb dL_most_35 (by decide) ?_
  refine lv_icmp_eq (tgt := 45) C.hx C.hb dL_most_40 (by decide) (fun _ => ?_) (fun c9 => absurd c9 (by decide +kernel))
  refine lv_iinc (v := nI 6) (lv' := [(1, .int (nI 6)), (0, .ref (ad 70))]) C.hx C.hb dL_most_45 hl (k := 0) rfl (by decide +kernel) (by decide) rfl (fun ls hl => ?_)
  refine lv_goto (tgt := 10) C.hx C.hb dL_most_48 (by decide) ?_
  refine lv_iload_n C.hx C.hb dL_most_10 rfl (lv_at hl 0 rfl) ?_
  refine lv_bipush (v := nI 17) C.hx C.hb dL_most_11 (by decide +kernel) ?_
  refine lv_icmp_ge (tgt := 51) C.hx C.hb dL_most_13 (by decide) (fun c9 => absurd c9 (by decide +kernel)) (fun _ => ?_)
  refine lv_aload_n C.hx C.hb dL_most_16 rfl (lv_at hl 1 rfl) ?_
  refine lv_iconst (v := nI 0) C.hx C.hb dL_most_17 (by decide +kernel) ?_
  refine lv_bipush (v := nI 9) C.hx C.hb dL_most_18 (by decide +kernel) ?_
  refine lv_bipush (v := nI 9) C.hx C.hb dL_most_20 (by decide +kernel) ?_
  refine lv_iconst (v := nI 5) C.hx C.hb dL_most_22 (by decide +kernel) ?_
  refine lv_bipush (v := nI 7) C.hx C.hb dL_most_23 (by decide +kernel) ?_
  refine q_cA (L := S43) (L' := S44) (r := nI 6) (c2 := 73) (s2 := 1015) (As := [.int (nI 0), .int (nI 9), .int (nI 9), .int (nI 5), .int (nI 7)]) C hs hP hD hS (ca_mention (nI 9) (nI 9) (nI 5) (nI 7) (nI 6) (cs_mention S44 (nI 9) (nI 9) (nI 5) (nI 7) (Or.inr (q_r_nI (by decide))) 6 (by decide +kernel))) kl_L_102 hl rfl rfl (Nat.le_of_ble_eq_true rfl) ⟨Nat.le_of_ble_eq_true rfl, Nat.le_of_ble_eq_true rfl⟩ ⟨Nat.le_of_ble_eq_true rfl, Nat.le_of_ble_eq_true rfl⟩ ⟨Nat.le_of_ble_eq_true rfl, Nat.le_of_ble_eq_true rfl⟩ dL_most_25 (fun g z H locs hs hP hD hS => ?_)
  refine lv_iload_n C.hx C.hb dL_most_28 rfl (lv_at hl 0 rfl) ?_
  refine lv_bipush (v := nI 16) C.hx C.hb dL_most_29 (by decide +kernel) ?_
  refine lv_icmp_ge (tgt := 38) C.hx C.hb dL_most_31 (by decide) (fun c9 => absurd c9 (by decide +kernel)) (fun _ => ?_)
  refine lv_iload_n C.hx C.hb dL_most_34 rfl (lv_at hl 0 rfl) ?_
  refine lv_goto (tgt := 40) C.hx C.hb dL_most_35 (by decide) ?_
  refine lv_icmp_eq (tgt := 45) C.hx C.hb dL_most_40 (by decide) (fun _ => ?_) (fun c9 => absurd c9 (by decide +kernel))
  refine lv_iinc (v := nI 7) (lv' := [(1, .int (nI 7)), (0, .ref (ad 70))]) C.hx C.hb dL_most_45 hl (k := 0) rfl (by decide +kernel) (by decide) rfl (fun ls hl => ?_)
  refine lv_goto (tgt := 10) C.hx C.hb dL_most_48 (by decide) ?_
  refine lv_iload_n C.hx C.hb dL_most_10 rfl (lv_at hl 0 rfl) ?_
  refine lv_bipush (v := nI 17) C.hx C.hb dL_most_11 (by decide +kernel) ?_
  refine lv_icmp_ge (tgt := 51) C.hx C.hb dL_most_13 (by decide) (fun c9 => absurd c9 (by decide +kernel)) (fun _ => ?_)
  refine lv_aload_n C.hx C.hb dL_most_16 rfl (lv_at hl 1 rfl) ?_
  refine lv_iconst (v := nI 0) C.hx C.hb dL_most_17 (by decide +kernel) ?_
  refine lv_bipush (v := nI 9) C.hx C.hb dL_most_18 (by decide +kernel) ?_
  refine lv_bipush (v := nI 9) C.hx C.hb dL_most_20 (by decide +kernel) ?_
  refine lv_iconst (v := nI 5) C.hx C.hb dL_most_22 (by decide +kernel) ?_
  refine lv_bipush (v := nI 7) C.hx C.hb dL_most_23 (by decide +kernel) ?_
  refine q_cA (L := S44) (L' := S45) (r := nI 7) (c2 := 74) (s2 := 1021) (As := [.int (nI 0), .int (nI 9), .int (nI 9), .int (nI 5), .int (nI 7)]) C hs hP hD hS (ca_mention (nI 9) (nI 9) (nI 5) (nI 7) (nI 7) (cs_mention S45 (nI 9) (nI 9) (nI 5) (nI 7) (Or.inr (q_r_nI (by decide))) 7 (by decide +kernel))) kl_L_102 hl rfl rfl (Nat.le_of_ble_eq_true rfl) ⟨Nat.le_of_ble_eq_true rfl, Nat.le_of_ble_eq_true rfl⟩ ⟨Nat.le_of_ble_eq_true rfl, Nat.le_of_ble_eq_true rfl⟩ ⟨Nat.le_of_ble_eq_true rfl, Nat.le_of_ble_eq_true rfl⟩ dL_most_25 (fun g z H locs hs hP hD hS => ?_)
  refine lv_iload_n C.hx C.hb dL_most_28 rfl (lv_at hl 0 rfl) ?_
  refine lv_bipush (v := nI 16) C.hx C.hb dL_most_29 (by decide +kernel) ?_
  refine lv_icmp_ge (tgt := 38) C.hx C.hb dL_most_31 (by decide) (fun c9 => absurd c9 (by decide +kernel)) (fun _ => ?_)
  refine lv_iload_n C.hx C.hb dL_most_34 rfl (lv_at hl 0 rfl) ?_
  refine lv_goto (tgt := 40) C.hx C.hb dL_most_35 (by decide) ?_
  refine lv_icmp_eq (tgt := 45) C.hx C.hb dL_most_40 (by decide) (fun _ => ?_) (fun c9 => absurd c9 (by decide +kernel))
  exact kk g z H locs ls hs hP hD hS hl

set_option maxRecDepth 100000 in
set_option maxHeartbeats 4000000 in
theorem tr_most_2 {p : Program} {l : Launch} {e : Env} {s : State} {m : MethodId} {args : Array Value} {below : List Frame} {meth : Method} {c : Code} {D : va_G} {cA : ClassId} {A : Nat → Prop} {ad : Nat → Nat} {Q : State → Prop} (C : lcx p l s m c cL_most 2 D cA A) (kk : ∀ (g : Nat → Nat → Int32) (z : Nat → Nat) (H : Heap) (locs : List Loc) (ls : Array Slot), isL S49 g z → va_P D vwCl (rlW cA ad g z) H → va_D A (rlW cA ad g z) → va_S A s.heap H locs → lv_has ls 2 [(1, .int (nI 11)), (0, .ref (ad 70))] → W p l e rm_Lmost s m args below meth c H locs 78 1045 Q (F0 m 45 ls [])) : ∀ (g : Nat → Nat → Int32) (z : Nat → Nat) (H : Heap) (locs : List Loc) (ls : Array Slot), isL S45 g z → va_P D vwCl (rlW cA ad g z) H → va_D A (rlW cA ad g z) → va_S A s.heap H locs → lv_has ls 2 [(1, .int (nI 7)), (0, .ref (ad 70))] → W p l e rm_Lmost s m args below meth c H locs 74 1021 Q (F0 m 45 ls []) := by
  intro g z H locs ls hs hP hD hS hl
  refine lv_iinc (v := nI 8) (lv' := [(1, .int (nI 8)), (0, .ref (ad 70))]) C.hx C.hb dL_most_45 hl (k := 0) rfl (by decide +kernel) (by decide) rfl (fun ls hl => ?_)
  refine lv_goto (tgt := 10) C.hx C.hb dL_most_48 (by decide) ?_
  refine lv_iload_n C.hx C.hb dL_most_10 rfl (lv_at hl 0 rfl) ?_
  refine lv_bipush (v := nI 17) C.hx C.hb dL_most_11 (by decide +kernel) ?_
  refine lv_icmp_ge (tgt := 51) C.hx C.hb dL_most_13 (by decide) (fun c9 => absurd c9 (by decide +kernel)) (fun _ => ?_)
  refine lv_aload_n C.hx C.hb dL_most_16 rfl (lv_at hl 1 rfl) ?_
  refine lv_iconst (v := nI 0) C.hx C.hb dL_most_17 (by decide +kernel) ?_
  refine lv_bipush (v := nI 9) C.hx C.hb dL_most_18 (by decide +kernel) ?_
  refine lv_bipush (v := nI 9) C.hx C.hb dL_most_20 (by decide +kernel) ?_
  refine lv_iconst (v := nI 5) C.hx C.hb dL_most_22 (by decide +kernel) ?_
  refine lv_bipush (v := nI 7) C.hx C.hb dL_most_23 (by decide +kernel) ?_
  refine q_cA (L := S45) (L' := S46) (r := nI 8) (c2 := 75) (s2 := 1027) (As := [.int (nI 0), .int (nI 9), .int (nI 9), .int (nI 5), .int (nI 7)]) C hs hP hD hS (ca_mention (nI 9) (nI 9) (nI 5) (nI 7) (nI 8) (cs_mention S46 (nI 9) (nI 9) (nI 5) (nI 7) (Or.inr (q_r_nI (by decide))) 8 (by decide +kernel))) kl_L_102 hl rfl rfl (Nat.le_of_ble_eq_true rfl) ⟨Nat.le_of_ble_eq_true rfl, Nat.le_of_ble_eq_true rfl⟩ ⟨Nat.le_of_ble_eq_true rfl, Nat.le_of_ble_eq_true rfl⟩ ⟨Nat.le_of_ble_eq_true rfl, Nat.le_of_ble_eq_true rfl⟩ dL_most_25 (fun g z H locs hs hP hD hS => ?_)
  refine lv_iload_n C.hx C.hb dL_most_28 rfl (lv_at hl 0 rfl) ?_
  refine lv_bipush (v := nI 16) C.hx C.hb dL_most_29 (by decide +kernel) ?_
  refine lv_icmp_ge (tgt := 38) C.hx C.hb dL_most_31 (by decide) (fun c9 => absurd c9 (by decide +kernel)) (fun _ => ?_)
  refine lv_iload_n C.hx C.hb dL_most_34 rfl (lv_at hl 0 rfl) ?_
  refine lv_goto (tgt := 40) C.hx C.hb dL_most_35 (by decide) ?_
  refine lv_icmp_eq (tgt := 45) C.hx C.hb dL_most_40 (by decide) (fun _ => ?_) (fun c9 => absurd c9 (by decide +kernel))
  refine lv_iinc (v := nI 9) (lv' := [(1, .int (nI 9)), (0, .ref (ad 70))]) C.hx C.hb dL_most_45 hl (k := 0) rfl (by decide +kernel) (by decide) rfl (fun ls hl => ?_)
  refine lv_goto (tgt := 10) C.hx C.hb dL_most_48 (by decide) ?_
  refine lv_iload_n C.hx C.hb dL_most_10 rfl (lv_at hl 0 rfl) ?_
  refine lv_bipush (v := nI 17) C.hx C.hb dL_most_11 (by decide +kernel) ?_
  refine lv_icmp_ge (tgt := 51) C.hx C.hb dL_most_13 (by decide) (fun c9 => absurd c9 (by decide +kernel)) (fun _ => ?_)
  refine lv_aload_n C.hx C.hb dL_most_16 rfl (lv_at hl 1 rfl) ?_
  refine lv_iconst (v := nI 0) C.hx C.hb dL_most_17 (by decide +kernel) ?_
  refine lv_bipush (v := nI 9) C.hx C.hb dL_most_18 (by decide +kernel) ?_
  refine lv_bipush (v := nI 9) C.hx C.hb dL_most_20 (by decide +kernel) ?_
  refine lv_iconst (v := nI 5) C.hx C.hb dL_most_22 (by decide +kernel) ?_
  refine lv_bipush (v := nI 7) C.hx C.hb dL_most_23 (by decide +kernel) ?_
  refine q_cA (L := S46) (L' := S47) (r := nI 9) (c2 := 76) (s2 := 1033) (As := [.int (nI 0), .int (nI 9), .int (nI 9), .int (nI 5), .int (nI 7)]) C hs hP hD hS (ca_mention (nI 9) (nI 9) (nI 5) (nI 7) (nI 9) (cs_mention S47 (nI 9) (nI 9) (nI 5) (nI 7) (Or.inr (q_r_nI (by decide))) 9 (by decide +kernel))) kl_L_102 hl rfl rfl (Nat.le_of_ble_eq_true rfl) ⟨Nat.le_of_ble_eq_true rfl, Nat.le_of_ble_eq_true rfl⟩ ⟨Nat.le_of_ble_eq_true rfl, Nat.le_of_ble_eq_true rfl⟩ ⟨Nat.le_of_ble_eq_true rfl, Nat.le_of_ble_eq_true rfl⟩ dL_most_25 (fun g z H locs hs hP hD hS => ?_)
  refine lv_iload_n C.hx C.hb dL_most_28 rfl (lv_at hl 0 rfl) ?_
  refine lv_bipush (v := nI 16) C.hx C.hb dL_most_29 (by decide +kernel) ?_
  refine lv_icmp_ge (tgt := 38) C.hx C.hb dL_most_31 (by decide) (fun c9 => absurd c9 (by decide +kernel)) (fun _ => ?_)
  refine lv_iload_n C.hx C.hb dL_most_34 rfl (lv_at hl 0 rfl) ?_
  refine lv_goto (tgt := 40) C.hx C.hb dL_most_35 (by decide) ?_
  refine lv_icmp_eq (tgt := 45) C.hx C.hb dL_most_40 (by decide) (fun _ => ?_) (fun c9 => absurd c9 (by decide +kernel))
  refine lv_iinc (v := nI 10) (lv' := [(1, .int (nI 10)), (0, .ref (ad 70))]) C.hx C.hb dL_most_45 hl (k := 0) rfl (by decide +kernel) (by decide) rfl (fun ls hl => ?_)
  refine lv_goto (tgt := 10) C.hx C.hb dL_most_48 (by decide) ?_
  refine lv_iload_n C.hx C.hb dL_most_10 rfl (lv_at hl 0 rfl) ?_
  refine lv_bipush (v := nI 17) C.hx C.hb dL_most_11 (by decide +kernel) ?_
  refine lv_icmp_ge (tgt := 51) C.hx C.hb dL_most_13 (by decide) (fun c9 => absurd c9 (by decide +kernel)) (fun _ => ?_)
  refine lv_aload_n C.hx C.hb dL_most_16 rfl (lv_at hl 1 rfl) ?_
  refine lv_iconst (v := nI 0) C.hx C.hb dL_most_17 (by decide +kernel) ?_
  refine lv_bipush (v := nI 9) C.hx C.hb dL_most_18 (by decide +kernel) ?_
  refine lv_bipush (v := nI 9) C.hx C.hb dL_most_20 (by decide +kernel) ?_
  refine lv_iconst (v := nI 5) C.hx C.hb dL_most_22 (by decide +kernel) ?_
  refine lv_bipush (v := nI 7) C.hx C.hb dL_most_23 (by decide +kernel) ?_
  refine q_cA (L := S47) (L' := S48) (r := nI 10) (c2 := 77) (s2 := 1039) (As := [.int (nI 0), .int (nI 9), .int (nI 9), .int (nI 5), .int (nI 7)]) C hs hP hD hS (ca_mention (nI 9) (nI 9) (nI 5) (nI 7) (nI 10) (cs_mention S48 (nI 9) (nI 9) (nI 5) (nI 7) (Or.inr (q_r_nI (by decide))) 10 (by decide +kernel))) kl_L_102 hl rfl rfl (Nat.le_of_ble_eq_true rfl) ⟨Nat.le_of_ble_eq_true rfl, Nat.le_of_ble_eq_true rfl⟩ ⟨Nat.le_of_ble_eq_true rfl, Nat.le_of_ble_eq_true rfl⟩ ⟨Nat.le_of_ble_eq_true rfl, Nat.le_of_ble_eq_true rfl⟩ dL_most_25 (fun g z H locs hs hP hD hS => ?_)
  refine lv_iload_n C.hx C.hb dL_most_28 rfl (lv_at hl 0 rfl) ?_
  refine lv_bipush (v := nI 16) C.hx C.hb dL_most_29 (by decide +kernel) ?_
  refine lv_icmp_ge (tgt := 38) C.hx C.hb dL_most_31 (by decide) (fun c9 => absurd c9 (by decide +kernel)) (fun _ => ?_)
  refine lv_iload_n C.hx C.hb dL_most_34 rfl (lv_at hl 0 rfl) ?_
  refine lv_goto (tgt := 40) C.hx C.hb dL_most_35 (by decide) ?_
  refine lv_icmp_eq (tgt := 45) C.hx C.hb dL_most_40 (by decide) (fun _ => ?_) (fun c9 => absurd c9 (by decide +kernel))
  refine lv_iinc (v := nI 11) (lv' := [(1, .int (nI 11)), (0, .ref (ad 70))]) C.hx C.hb dL_most_45 hl (k := 0) rfl (by decide +kernel) (by decide) rfl (fun ls hl => ?_)
  refine lv_goto (tgt := 10) C.hx C.hb dL_most_48 (by decide) ?_
  refine lv_iload_n C.hx C.hb dL_most_10 rfl (lv_at hl 0 rfl) ?_
  refine lv_bipush (v := nI 17) C.hx C.hb dL_most_11 (by decide +kernel) ?_
  refine lv_icmp_ge (tgt := 51) C.hx C.hb dL_most_13 (by decide) (fun c9 => absurd c9 (by decide +kernel)) (fun _ => ?_)
  refine lv_aload_n C.hx C.hb dL_most_16 rfl (lv_at hl 1 rfl) ?_
  refine lv_iconst (v := nI 0) C.hx C.hb dL_most_17 (by decide +kernel) ?_
  refine lv_bipush (v := nI 9) C.hx C.hb dL_most_18 (by decide +kernel) ?_
  refine lv_bipush (v := nI 9) C.hx C.hb dL_most_20 (by decide +kernel) ?_
  refine lv_iconst (v := nI 5) C.hx C.hb dL_most_22 (by decide +kernel) ?_
  refine lv_bipush (v := nI 7) C.hx C.hb dL_most_23 (by decide +kernel) ?_
  refine q_cA (L := S48) (L' := S49) (r := nI 11) (c2 := 78) (s2 := 1045) (As := [.int (nI 0), .int (nI 9), .int (nI 9), .int (nI 5), .int (nI 7)]) C hs hP hD hS (ca_mention (nI 9) (nI 9) (nI 5) (nI 7) (nI 11) (cs_mention S49 (nI 9) (nI 9) (nI 5) (nI 7) (Or.inr (q_r_nI (by decide))) 11 (by decide +kernel))) kl_L_102 hl rfl rfl (Nat.le_of_ble_eq_true rfl) ⟨Nat.le_of_ble_eq_true rfl, Nat.le_of_ble_eq_true rfl⟩ ⟨Nat.le_of_ble_eq_true rfl, Nat.le_of_ble_eq_true rfl⟩ ⟨Nat.le_of_ble_eq_true rfl, Nat.le_of_ble_eq_true rfl⟩ dL_most_25 (fun g z H locs hs hP hD hS => ?_)
  refine lv_iload_n C.hx C.hb dL_most_28 rfl (lv_at hl 0 rfl) ?_
  refine lv_bipush (v := nI 16) C.hx C.hb dL_most_29 (by decide +kernel) ?_
  refine lv_icmp_ge (tgt := 38) C.hx C.hb dL_most_31 (by decide) (fun c9 => absurd c9 (by decide +kernel)) (fun _ => ?_)
  refine lv_iload_n C.hx C.hb dL_most_34 rfl (lv_at hl 0 rfl) ?_
  refine lv_goto (tgt := 40) C.hx C.hb dL_most_35 (by decide) ?_
  refine lv_icmp_eq (tgt := 45) C.hx C.hb dL_most_40 (by decide) (fun _ => ?_) (fun c9 => absurd c9 (by decide +kernel))
  exact kk g z H locs ls hs hP hD hS hl

set_option maxRecDepth 100000 in
set_option maxHeartbeats 4000000 in
theorem tr_most_3 {p : Program} {l : Launch} {e : Env} {s : State} {m : MethodId} {args : Array Value} {below : List Frame} {meth : Method} {c : Code} {D : va_G} {cA : ClassId} {A : Nat → Prop} {ad : Nat → Nat} {Q : State → Prop} (C : lcx p l s m c cL_most 2 D cA A) (kk : ∀ (g : Nat → Nat → Int32) (z : Nat → Nat) (H : Heap) (locs : List Loc) (ls : Array Slot), isL S53 g z → va_P D vwCl (rlW cA ad g z) H → va_D A (rlW cA ad g z) → va_S A s.heap H locs → lv_has ls 2 [(1, .int (nI 15)), (0, .ref (ad 70))] → W p l e rm_Lmost s m args below meth c H locs 82 1069 Q (F0 m 45 ls [])) : ∀ (g : Nat → Nat → Int32) (z : Nat → Nat) (H : Heap) (locs : List Loc) (ls : Array Slot), isL S49 g z → va_P D vwCl (rlW cA ad g z) H → va_D A (rlW cA ad g z) → va_S A s.heap H locs → lv_has ls 2 [(1, .int (nI 11)), (0, .ref (ad 70))] → W p l e rm_Lmost s m args below meth c H locs 78 1045 Q (F0 m 45 ls []) := by
  intro g z H locs ls hs hP hD hS hl
  refine lv_iinc (v := nI 12) (lv' := [(1, .int (nI 12)), (0, .ref (ad 70))]) C.hx C.hb dL_most_45 hl (k := 0) rfl (by decide +kernel) (by decide) rfl (fun ls hl => ?_)
  refine lv_goto (tgt := 10) C.hx C.hb dL_most_48 (by decide) ?_
  refine lv_iload_n C.hx C.hb dL_most_10 rfl (lv_at hl 0 rfl) ?_
  refine lv_bipush (v := nI 17) C.hx C.hb dL_most_11 (by decide +kernel) ?_
  refine lv_icmp_ge (tgt := 51) C.hx C.hb dL_most_13 (by decide) (fun c9 => absurd c9 (by decide +kernel)) (fun _ => ?_)
  refine lv_aload_n C.hx C.hb dL_most_16 rfl (lv_at hl 1 rfl) ?_
  refine lv_iconst (v := nI 0) C.hx C.hb dL_most_17 (by decide +kernel) ?_
  refine lv_bipush (v := nI 9) C.hx C.hb dL_most_18 (by decide +kernel) ?_
  refine lv_bipush (v := nI 9) C.hx C.hb dL_most_20 (by decide +kernel) ?_
  refine lv_iconst (v := nI 5) C.hx C.hb dL_most_22 (by decide +kernel) ?_
  refine lv_bipush (v := nI 7) C.hx C.hb dL_most_23 (by decide +kernel) ?_
  refine q_cA (L := S49) (L' := S50) (r := nI 12) (c2 := 79) (s2 := 1051) (As := [.int (nI 0), .int (nI 9), .int (nI 9), .int (nI 5), .int (nI 7)]) C hs hP hD hS (ca_mention (nI 9) (nI 9) (nI 5) (nI 7) (nI 12) (cs_mention S50 (nI 9) (nI 9) (nI 5) (nI 7) (Or.inr (q_r_nI (by decide))) 12 (by decide +kernel))) kl_L_102 hl rfl rfl (Nat.le_of_ble_eq_true rfl) ⟨Nat.le_of_ble_eq_true rfl, Nat.le_of_ble_eq_true rfl⟩ ⟨Nat.le_of_ble_eq_true rfl, Nat.le_of_ble_eq_true rfl⟩ ⟨Nat.le_of_ble_eq_true rfl, Nat.le_of_ble_eq_true rfl⟩ dL_most_25 (fun g z H locs hs hP hD hS => ?_)
  refine lv_iload_n C.hx C.hb dL_most_28 rfl (lv_at hl 0 rfl) ?_
  refine lv_bipush (v := nI 16) C.hx C.hb dL_most_29 (by decide +kernel) ?_
  refine lv_icmp_ge (tgt := 38) C.hx C.hb dL_most_31 (by decide) (fun c9 => absurd c9 (by decide +kernel)) (fun _ => ?_)
  refine lv_iload_n C.hx C.hb dL_most_34 rfl (lv_at hl 0 rfl) ?_
  refine lv_goto (tgt := 40) C.hx C.hb dL_most_35 (by decide) ?_
  refine lv_icmp_eq (tgt := 45) C.hx C.hb dL_most_40 (by decide) (fun _ => ?_) (fun c9 => absurd c9 (by decide +kernel))
  refine lv_iinc (v := nI 13) (lv' := [(1, .int (nI 13)), (0, .ref (ad 70))]) C.hx C.hb dL_most_45 hl (k := 0) rfl (by decide +kernel) (by decide) rfl (fun ls hl => ?_)
  refine lv_goto (tgt := 10) C.hx C.hb dL_most_48 (by decide) ?_
  refine lv_iload_n C.hx C.hb dL_most_10 rfl (lv_at hl 0 rfl) ?_
  refine lv_bipush (v := nI 17) C.hx C.hb dL_most_11 (by decide +kernel) ?_
  refine lv_icmp_ge (tgt := 51) C.hx C.hb dL_most_13 (by decide) (fun c9 => absurd c9 (by decide +kernel)) (fun _ => ?_)
  refine lv_aload_n C.hx C.hb dL_most_16 rfl (lv_at hl 1 rfl) ?_
  refine lv_iconst (v := nI 0) C.hx C.hb dL_most_17 (by decide +kernel) ?_
  refine lv_bipush (v := nI 9) C.hx C.hb dL_most_18 (by decide +kernel) ?_
  refine lv_bipush (v := nI 9) C.hx C.hb dL_most_20 (by decide +kernel) ?_
  refine lv_iconst (v := nI 5) C.hx C.hb dL_most_22 (by decide +kernel) ?_
  refine lv_bipush (v := nI 7) C.hx C.hb dL_most_23 (by decide +kernel) ?_
  refine q_cA (L := S50) (L' := S51) (r := nI 13) (c2 := 80) (s2 := 1057) (As := [.int (nI 0), .int (nI 9), .int (nI 9), .int (nI 5), .int (nI 7)]) C hs hP hD hS (ca_mention (nI 9) (nI 9) (nI 5) (nI 7) (nI 13) (cs_mention S51 (nI 9) (nI 9) (nI 5) (nI 7) (Or.inr (q_r_nI (by decide))) 13 (by decide +kernel))) kl_L_102 hl rfl rfl (Nat.le_of_ble_eq_true rfl) ⟨Nat.le_of_ble_eq_true rfl, Nat.le_of_ble_eq_true rfl⟩ ⟨Nat.le_of_ble_eq_true rfl, Nat.le_of_ble_eq_true rfl⟩ ⟨Nat.le_of_ble_eq_true rfl, Nat.le_of_ble_eq_true rfl⟩ dL_most_25 (fun g z H locs hs hP hD hS => ?_)
  refine lv_iload_n C.hx C.hb dL_most_28 rfl (lv_at hl 0 rfl) ?_
  refine lv_bipush (v := nI 16) C.hx C.hb dL_most_29 (by decide +kernel) ?_
  refine lv_icmp_ge (tgt := 38) C.hx C.hb dL_most_31 (by decide) (fun c9 => absurd c9 (by decide +kernel)) (fun _ => ?_)
  refine lv_iload_n C.hx C.hb dL_most_34 rfl (lv_at hl 0 rfl) ?_
  refine lv_goto (tgt := 40) C.hx C.hb dL_most_35 (by decide) ?_
  refine lv_icmp_eq (tgt := 45) C.hx C.hb dL_most_40 (by decide) (fun _ => ?_) (fun c9 => absurd c9 (by decide +kernel))
  refine lv_iinc (v := nI 14) (lv' := [(1, .int (nI 14)), (0, .ref (ad 70))]) C.hx C.hb dL_most_45 hl (k := 0) rfl (by decide +kernel) (by decide) rfl (fun ls hl => ?_)
  refine lv_goto (tgt := 10) C.hx C.hb dL_most_48 (by decide) ?_
  refine lv_iload_n C.hx C.hb dL_most_10 rfl (lv_at hl 0 rfl) ?_
  refine lv_bipush (v := nI 17) C.hx C.hb dL_most_11 (by decide +kernel) ?_
  refine lv_icmp_ge (tgt := 51) C.hx C.hb dL_most_13 (by decide) (fun c9 => absurd c9 (by decide +kernel)) (fun _ => ?_)
  refine lv_aload_n C.hx C.hb dL_most_16 rfl (lv_at hl 1 rfl) ?_
  refine lv_iconst (v := nI 0) C.hx C.hb dL_most_17 (by decide +kernel) ?_
  refine lv_bipush (v := nI 9) C.hx C.hb dL_most_18 (by decide +kernel) ?_
  refine lv_bipush (v := nI 9) C.hx C.hb dL_most_20 (by decide +kernel) ?_
  refine lv_iconst (v := nI 5) C.hx C.hb dL_most_22 (by decide +kernel) ?_
  refine lv_bipush (v := nI 7) C.hx C.hb dL_most_23 (by decide +kernel) ?_
  refine q_cA (L := S51) (L' := S52) (r := nI 14) (c2 := 81) (s2 := 1063) (As := [.int (nI 0), .int (nI 9), .int (nI 9), .int (nI 5), .int (nI 7)]) C hs hP hD hS (ca_mention (nI 9) (nI 9) (nI 5) (nI 7) (nI 14) (cs_mention S52 (nI 9) (nI 9) (nI 5) (nI 7) (Or.inr (q_r_nI (by decide))) 14 (by decide +kernel))) kl_L_102 hl rfl rfl (Nat.le_of_ble_eq_true rfl) ⟨Nat.le_of_ble_eq_true rfl, Nat.le_of_ble_eq_true rfl⟩ ⟨Nat.le_of_ble_eq_true rfl, Nat.le_of_ble_eq_true rfl⟩ ⟨Nat.le_of_ble_eq_true rfl, Nat.le_of_ble_eq_true rfl⟩ dL_most_25 (fun g z H locs hs hP hD hS => ?_)
  refine lv_iload_n C.hx C.hb dL_most_28 rfl (lv_at hl 0 rfl) ?_
  refine lv_bipush (v := nI 16) C.hx C.hb dL_most_29 (by decide +kernel) ?_
  refine lv_icmp_ge (tgt := 38) C.hx C.hb dL_most_31 (by decide) (fun c9 => absurd c9 (by decide +kernel)) (fun _ => ?_)
  refine lv_iload_n C.hx C.hb dL_most_34 rfl (lv_at hl 0 rfl) ?_
  refine lv_goto (tgt := 40) C.hx C.hb dL_most_35 (by decide) ?_
  refine lv_icmp_eq (tgt := 45) C.hx C.hb dL_most_40 (by decide) (fun _ => ?_) (fun c9 => absurd c9 (by decide +kernel))
  refine lv_iinc (v := nI 15) (lv' := [(1, .int (nI 15)), (0, .ref (ad 70))]) C.hx C.hb dL_most_45 hl (k := 0) rfl (by decide +kernel) (by decide) rfl (fun ls hl => ?_)
  refine lv_goto (tgt := 10) C.hx C.hb dL_most_48 (by decide) ?_
  refine lv_iload_n C.hx C.hb dL_most_10 rfl (lv_at hl 0 rfl) ?_
  refine lv_bipush (v := nI 17) C.hx C.hb dL_most_11 (by decide +kernel) ?_
  refine lv_icmp_ge (tgt := 51) C.hx C.hb dL_most_13 (by decide) (fun c9 => absurd c9 (by decide +kernel)) (fun _ => ?_)
  refine lv_aload_n C.hx C.hb dL_most_16 rfl (lv_at hl 1 rfl) ?_
  refine lv_iconst (v := nI 0) C.hx C.hb dL_most_17 (by decide +kernel) ?_
  refine lv_bipush (v := nI 9) C.hx C.hb dL_most_18 (by decide +kernel) ?_
  refine lv_bipush (v := nI 9) C.hx C.hb dL_most_20 (by decide +kernel) ?_
  refine lv_iconst (v := nI 5) C.hx C.hb dL_most_22 (by decide +kernel) ?_
  refine lv_bipush (v := nI 7) C.hx C.hb dL_most_23 (by decide +kernel) ?_
  refine q_cA (L := S52) (L' := S53) (r := nI 15) (c2 := 82) (s2 := 1069) (As := [.int (nI 0), .int (nI 9), .int (nI 9), .int (nI 5), .int (nI 7)]) C hs hP hD hS (ca_mention (nI 9) (nI 9) (nI 5) (nI 7) (nI 15) (cs_mention S53 (nI 9) (nI 9) (nI 5) (nI 7) (Or.inr (q_r_nI (by decide))) 15 (by decide +kernel))) kl_L_102 hl rfl rfl (Nat.le_of_ble_eq_true rfl) ⟨Nat.le_of_ble_eq_true rfl, Nat.le_of_ble_eq_true rfl⟩ ⟨Nat.le_of_ble_eq_true rfl, Nat.le_of_ble_eq_true rfl⟩ ⟨Nat.le_of_ble_eq_true rfl, Nat.le_of_ble_eq_true rfl⟩ dL_most_25 (fun g z H locs hs hP hD hS => ?_)
  refine lv_iload_n C.hx C.hb dL_most_28 rfl (lv_at hl 0 rfl) ?_
  refine lv_bipush (v := nI 16) C.hx C.hb dL_most_29 (by decide +kernel) ?_
  refine lv_icmp_ge (tgt := 38) C.hx C.hb dL_most_31 (by decide) (fun c9 => absurd c9 (by decide +kernel)) (fun _ => ?_)
  refine lv_iload_n C.hx C.hb dL_most_34 rfl (lv_at hl 0 rfl) ?_
  refine lv_goto (tgt := 40) C.hx C.hb dL_most_35 (by decide) ?_
  refine lv_icmp_eq (tgt := 45) C.hx C.hb dL_most_40 (by decide) (fun _ => ?_) (fun c9 => absurd c9 (by decide +kernel))
  exact kk g z H locs ls hs hP hD hS hl

set_option maxRecDepth 100000 in
set_option maxHeartbeats 4000000 in
theorem tr_most_4 {p : Program} {l : Launch} {e : Env} {s : State} {m : MethodId} {args : Array Value} {below : List Frame} {meth : Method} {c : Code} {D : va_G} {cA : ClassId} {A : Nat → Prop} {ad : Nat → Nat} {Q : State → Prop} (C : lcx p l s m c cL_most 2 D cA A) (kk : ∀ (g : Nat → Nat → Int32) (z : Nat → Nat) (H : Heap) (locs : List Loc) (ls : Array Slot), isL S55 g z → va_P D vwCl (rlW cA ad g z) H → va_D A (rlW cA ad g z) → va_S A s.heap H locs → lv_has ls 2 [(1, .int (nI 1)), (0, .ref (ad 70))] → W p l e rm_Lmost s m args below meth c H locs 85 1087 Q (F0 m 94 ls [])) : ∀ (g : Nat → Nat → Int32) (z : Nat → Nat) (H : Heap) (locs : List Loc) (ls : Array Slot), isL S53 g z → va_P D vwCl (rlW cA ad g z) H → va_D A (rlW cA ad g z) → va_S A s.heap H locs → lv_has ls 2 [(1, .int (nI 15)), (0, .ref (ad 70))] → W p l e rm_Lmost s m args below meth c H locs 82 1069 Q (F0 m 45 ls []) := by
  intro g z H locs ls hs hP hD hS hl
  refine lv_iinc (v := nI 16) (lv' := [(1, .int (nI 16)), (0, .ref (ad 70))]) C.hx C.hb dL_most_45 hl (k := 0) rfl (by decide +kernel) (by decide) rfl (fun ls hl => ?_)
  refine lv_goto (tgt := 10) C.hx C.hb dL_most_48 (by decide) ?_
  refine lv_iload_n C.hx C.hb dL_most_10 rfl (lv_at hl 0 rfl) ?_
  refine lv_bipush (v := nI 17) C.hx C.hb dL_most_11 (by decide +kernel) ?_
  refine lv_icmp_ge (tgt := 51) C.hx C.hb dL_most_13 (by decide) (fun c9 => absurd c9 (by decide +kernel)) (fun _ => ?_)
  refine lv_aload_n C.hx C.hb dL_most_16 rfl (lv_at hl 1 rfl) ?_
  refine lv_iconst (v := nI 0) C.hx C.hb dL_most_17 (by decide +kernel) ?_
  refine lv_bipush (v := nI 9) C.hx C.hb dL_most_18 (by decide +kernel) ?_
  refine lv_bipush (v := nI 9) C.hx C.hb dL_most_20 (by decide +kernel) ?_
  refine lv_iconst (v := nI 5) C.hx C.hb dL_most_22 (by decide +kernel) ?_
  refine lv_bipush (v := nI 7) C.hx C.hb dL_most_23 (by decide +kernel) ?_
  refine q_cA (L := S53) (L' := S53) (r := -7000003) (c2 := 83) (s2 := 1075) (As := [.int (nI 0), .int (nI 9), .int (nI 9), .int (nI 5), .int (nI 7)]) C hs hP hD hS (cx_mention C.htr (nI 9) (nI 9) (nI 5) (nI 7) (Or.inr (q_r_nI (by decide))) (by decide +kernel)) kl_L_102 hl rfl rfl (Nat.le_of_ble_eq_true rfl) ⟨Nat.le_of_ble_eq_true rfl, Nat.le_of_ble_eq_true rfl⟩ ⟨Nat.le_of_ble_eq_true rfl, Nat.le_of_ble_eq_true rfl⟩ ⟨Nat.le_of_ble_eq_true rfl, Nat.le_of_ble_eq_true rfl⟩ dL_most_25 (fun g z H locs hs hP hD hS => ?_)
  refine lv_iload_n C.hx C.hb dL_most_28 rfl (lv_at hl 0 rfl) ?_
  refine lv_bipush (v := nI 16) C.hx C.hb dL_most_29 (by decide +kernel) ?_
  refine lv_icmp_ge (tgt := 38) C.hx C.hb dL_most_31 (by decide) (fun _ => ?_) (fun c9 => absurd c9 (by decide +kernel))
  refine lv_ldc (v := -7000003) C.hx C.hb C.hown (C.hT.use kk_L_96 args) dL_most_38 ?_
  refine lv_icmp_eq (tgt := 45) C.hx C.hb dL_most_40 (by decide) (fun _ => ?_) (fun c9 => absurd c9 (by decide +kernel))
  refine lv_iinc (v := nI 17) (lv' := [(1, .int (nI 17)), (0, .ref (ad 70))]) C.hx C.hb dL_most_45 hl (k := 0) rfl (by decide +kernel) (by decide) rfl (fun ls hl => ?_)
  refine lv_goto (tgt := 10) C.hx C.hb dL_most_48 (by decide) ?_
  refine lv_iload_n C.hx C.hb dL_most_10 rfl (lv_at hl 0 rfl) ?_
  refine lv_bipush (v := nI 17) C.hx C.hb dL_most_11 (by decide +kernel) ?_
  refine lv_icmp_ge (tgt := 51) C.hx C.hb dL_most_13 (by decide) (fun _ => ?_) (fun c9 => absurd c9 (by decide +kernel))
  refine lv_iconst (v := nI 0) C.hx C.hb dL_most_51 (by decide +kernel) ?_
  refine lv_istore_n (lv' := [(1, .int (nI 0)), (0, .ref (ad 70))]) C.hx C.hb dL_most_52 rfl hl (by decide) rfl (fun ls hl => ?_)
  refine lv_iload_n C.hx C.hb dL_most_53 rfl (lv_at hl 0 rfl) ?_
  refine lv_bipush (v := nI 41) C.hx C.hb dL_most_54 (by decide +kernel) ?_
  refine lv_icmp_ge (tgt := 100) C.hx C.hb dL_most_56 (by decide) (fun c9 => absurd c9 (by decide +kernel)) (fun _ => ?_)
  refine lv_aload_n C.hx C.hb dL_most_59 rfl (lv_at hl 1 rfl) ?_
  refine lv_iconst (v := nI 3) C.hx C.hb dL_most_60 (by decide +kernel) ?_
  refine lv_iload_n C.hx C.hb dL_most_61 rfl (lv_at hl 0 rfl) ?_
  refine lv_bipush (v := nI 15) C.hx C.hb dL_most_62 (by decide +kernel) ?_
  refine lv_irem C.hx C.hb dL_most_64 (by decide +kernel) ?_
  refine q_top (y := nI 0) (by decide +kernel) ?_
  refine lv_iload_n C.hx C.hb dL_most_65 rfl (lv_at hl 0 rfl) ?_
  refine lv_bipush (v := nI 15) C.hx C.hb dL_most_66 (by decide +kernel) ?_
  refine lv_irem C.hx C.hb dL_most_68 (by decide +kernel) ?_
  refine q_top (y := nI 0) (by decide +kernel) ?_
  refine lv_iconst (v := nI 1) C.hx C.hb dL_most_69 (by decide +kernel) ?_
  refine lv_iadd C.hx C.hb dL_most_70 ?_
  refine q_top (y := nI 1) (by decide +kernel) ?_
  refine lv_bipush (v := -50) C.hx C.hb dL_most_71 (by decide +kernel) ?_
  refine lv_iconst (v := nI 0) C.hx C.hb dL_most_73 (by decide +kernel) ?_
  refine q_cA (L := S53) (L' := S54) (r := nI 0) (c2 := 84) (s2 := 1081) (As := [.int (nI 3), .int (nI 0), .int (nI 1), .int (-50), .int (nI 0)]) C hs hP hD hS (ca_ahead (nI 0) (nI 1) (-50) (nI 0) (nI 0) (cs_aheadC S54 0 1 (-50) 0 [] (by decide +kernel))) kl_L_102 hl rfl rfl (Nat.le_of_ble_eq_true rfl) ⟨Nat.le_of_ble_eq_true rfl, Nat.le_of_ble_eq_true rfl⟩ ⟨Nat.le_of_ble_eq_true rfl, Nat.le_of_ble_eq_true rfl⟩ ⟨Nat.le_of_ble_eq_true rfl, Nat.le_of_ble_eq_true rfl⟩ dL_most_74 (fun g z H locs hs hP hD hS => ?_)
  refine lv_iload_n C.hx C.hb dL_most_77 rfl (lv_at hl 0 rfl) ?_
  refine lv_bipush (v := nI 40) C.hx C.hb dL_most_78 (by decide +kernel) ?_
  refine lv_icmp_ge (tgt := 87) C.hx C.hb dL_most_80 (by decide) (fun c9 => absurd c9 (by decide +kernel)) (fun _ => ?_)
  refine lv_iconst (v := nI 0) C.hx C.hb dL_most_83 (by decide +kernel) ?_
  refine lv_goto (tgt := 89) C.hx C.hb dL_most_84 (by decide) ?_
  refine lv_icmp_eq (tgt := 94) C.hx C.hb dL_most_89 (by decide) (fun _ => ?_) (fun c9 => absurd c9 (by decide +kernel))
  refine lv_iinc (v := nI 1) (lv' := [(1, .int (nI 1)), (0, .ref (ad 70))]) C.hx C.hb dL_most_94 hl (k := 0) rfl (by decide +kernel) (by decide) rfl (fun ls hl => ?_)
  refine lv_goto (tgt := 53) C.hx C.hb dL_most_97 (by decide) ?_
  refine lv_iload_n C.hx C.hb dL_most_53 rfl (lv_at hl 0 rfl) ?_
  refine lv_bipush (v := nI 41) C.hx C.hb dL_most_54 (by decide +kernel) ?_
  refine lv_icmp_ge (tgt := 100) C.hx C.hb dL_most_56 (by decide) (fun c9 => absurd c9 (by decide +kernel)) (fun _ => ?_)
  refine lv_aload_n C.hx C.hb dL_most_59 rfl (lv_at hl 1 rfl) ?_
  refine lv_iconst (v := nI 3) C.hx C.hb dL_most_60 (by decide +kernel) ?_
  refine lv_iload_n C.hx C.hb dL_most_61 rfl (lv_at hl 0 rfl) ?_
  refine lv_bipush (v := nI 15) C.hx C.hb dL_most_62 (by decide +kernel) ?_
  refine lv_irem C.hx C.hb dL_most_64 (by decide +kernel) ?_
  refine q_top (y := nI 1) (by decide +kernel) ?_
  refine lv_iload_n C.hx C.hb dL_most_65 rfl (lv_at hl 0 rfl) ?_
  refine lv_bipush (v := nI 15) C.hx C.hb dL_most_66 (by decide +kernel) ?_
  refine lv_irem C.hx C.hb dL_most_68 (by decide +kernel) ?_
  refine q_top (y := nI 1) (by decide +kernel) ?_
  refine lv_iconst (v := nI 1) C.hx C.hb dL_most_69 (by decide +kernel) ?_
  refine lv_iadd C.hx C.hb dL_most_70 ?_
  refine q_top (y := nI 2) (by decide +kernel) ?_
  refine lv_bipush (v := -50) C.hx C.hb dL_most_71 (by decide +kernel) ?_
  refine lv_iconst (v := nI 0) C.hx C.hb dL_most_73 (by decide +kernel) ?_
  refine q_cA (L := S54) (L' := S55) (r := nI 0) (c2 := 85) (s2 := 1087) (As := [.int (nI 3), .int (nI 1), .int (nI 2), .int (-50), .int (nI 0)]) C hs hP hD hS (ca_ahead (nI 1) (nI 2) (-50) (nI 0) (nI 0) (cs_aheadC S55 1 2 (-50) 0 [] (by decide +kernel))) kl_L_102 hl rfl rfl (Nat.le_of_ble_eq_true rfl) ⟨Nat.le_of_ble_eq_true rfl, Nat.le_of_ble_eq_true rfl⟩ ⟨Nat.le_of_ble_eq_true rfl, Nat.le_of_ble_eq_true rfl⟩ ⟨Nat.le_of_ble_eq_true rfl, Nat.le_of_ble_eq_true rfl⟩ dL_most_74 (fun g z H locs hs hP hD hS => ?_)
  refine lv_iload_n C.hx C.hb dL_most_77 rfl (lv_at hl 0 rfl) ?_
  refine lv_bipush (v := nI 40) C.hx C.hb dL_most_78 (by decide +kernel) ?_
  refine lv_icmp_ge (tgt := 87) C.hx C.hb dL_most_80 (by decide) (fun c9 => absurd c9 (by decide +kernel)) (fun _ => ?_)
  refine lv_iconst (v := nI 0) C.hx C.hb dL_most_83 (by decide +kernel) ?_
  refine lv_goto (tgt := 89) C.hx C.hb dL_most_84 (by decide) ?_
  refine lv_icmp_eq (tgt := 94) C.hx C.hb dL_most_89 (by decide) (fun _ => ?_) (fun c9 => absurd c9 (by decide +kernel))
  exact kk g z H locs ls hs hP hD hS hl

set_option maxRecDepth 100000 in
set_option maxHeartbeats 4000000 in
theorem tr_most_5 {p : Program} {l : Launch} {e : Env} {s : State} {m : MethodId} {args : Array Value} {below : List Frame} {meth : Method} {c : Code} {D : va_G} {cA : ClassId} {A : Nat → Prop} {ad : Nat → Nat} {Q : State → Prop} (C : lcx p l s m c cL_most 2 D cA A) (kk : ∀ (g : Nat → Nat → Int32) (z : Nat → Nat) (H : Heap) (locs : List Loc) (ls : Array Slot), isL S58 g z → va_P D vwCl (rlW cA ad g z) H → va_D A (rlW cA ad g z) → va_S A s.heap H locs → lv_has ls 2 [(1, .int (nI 4)), (0, .ref (ad 70))] → W p l e rm_Lmost s m args below meth c H locs 88 1105 Q (F0 m 94 ls [])) : ∀ (g : Nat → Nat → Int32) (z : Nat → Nat) (H : Heap) (locs : List Loc) (ls : Array Slot), isL S55 g z → va_P D vwCl (rlW cA ad g z) H → va_D A (rlW cA ad g z) → va_S A s.heap H locs → lv_has ls 2 [(1, .int (nI 1)), (0, .ref (ad 70))] → W p l e rm_Lmost s m args below meth c H locs 85 1087 Q (F0 m 94 ls []) := by
  intro g z H locs ls hs hP hD hS hl
  refine lv_iinc (v := nI 2) (lv' := [(1, .int (nI 2)), (0, .ref (ad 70))]) C.hx C.hb dL_most_94 hl (k := 0) rfl (by decide +kernel) (by decide) rfl (fun ls hl => ?_)
  refine lv_goto (tgt := 53) C.hx C.hb dL_most_97 (by decide) ?_
  refine lv_iload_n C.hx C.hb dL_most_53 rfl (lv_at hl 0 rfl) ?_
  refine lv_bipush (v := nI 41) C.hx C.hb dL_most_54 (by decide +kernel) ?_
  refine lv_icmp_ge (tgt := 100) C.hx C.hb dL_most_56 (by decide) (fun c9 => absurd c9 (by decide +kernel)) (fun _ => ?_)
  refine lv_aload_n C.hx C.hb dL_most_59 rfl (lv_at hl 1 rfl) ?_
  refine lv_iconst (v := nI 3) C.hx C.hb dL_most_60 (by decide +kernel) ?_
  refine lv_iload_n C.hx C.hb dL_most_61 rfl (lv_at hl 0 rfl) ?_
  refine lv_bipush (v := nI 15) C.hx C.hb dL_most_62 (by decide +kernel) ?_
  refine lv_irem C.hx C.hb dL_most_64 (by decide +kernel) ?_
  refine q_top (y := nI 2) (by decide +kernel) ?_
  refine lv_iload_n C.hx C.hb dL_most_65 rfl (lv_at hl 0 rfl) ?_
  refine lv_bipush (v := nI 15) C.hx C.hb dL_most_66 (by decide +kernel) ?_
  refine lv_irem C.hx C.hb dL_most_68 (by decide +kernel) ?_
  refine q_top (y := nI 2) (by decide +kernel) ?_
  refine lv_iconst (v := nI 1) C.hx C.hb dL_most_69 (by decide +kernel) ?_
  refine lv_iadd C.hx C.hb dL_most_70 ?_
  refine q_top (y := nI 3) (by decide +kernel) ?_
  refine lv_bipush (v := -50) C.hx C.hb dL_most_71 (by decide +kernel) ?_
  refine lv_iconst (v := nI 0) C.hx C.hb dL_most_73 (by decide +kernel) ?_
  refine q_cA (L := S55) (L' := S56) (r := nI 0) (c2 := 86) (s2 := 1093) (As := [.int (nI 3), .int (nI 2), .int (nI 3), .int (-50), .int (nI 0)]) C hs hP hD hS (ca_ahead (nI 2) (nI 3) (-50) (nI 0) (nI 0) (cs_aheadC S56 2 3 (-50) 0 [] (by decide +kernel))) kl_L_102 hl rfl rfl (Nat.le_of_ble_eq_true rfl) ⟨Nat.le_of_ble_eq_true rfl, Nat.le_of_ble_eq_true rfl⟩ ⟨Nat.le_of_ble_eq_true rfl, Nat.le_of_ble_eq_true rfl⟩ ⟨Nat.le_of_ble_eq_true rfl, Nat.le_of_ble_eq_true rfl⟩ dL_most_74 (fun g z H locs hs hP hD hS => ?_)
  refine lv_iload_n C.hx C.hb dL_most_77 rfl (lv_at hl 0 rfl) ?_
  refine lv_bipush (v := nI 40) C.hx C.hb dL_most_78 (by decide +kernel) ?_
  refine lv_icmp_ge (tgt := 87) C.hx C.hb dL_most_80 (by decide) (fun c9 => absurd c9 (by decide +kernel)) (fun _ => ?_)
  refine lv_iconst (v := nI 0) C.hx C.hb dL_most_83 (by decide +kernel) ?_
  refine lv_goto (tgt := 89) C.hx C.hb dL_most_84 (by decide) ?_
  refine lv_icmp_eq (tgt := 94) C.hx C.hb dL_most_89 (by decide) (fun _ => ?_) (fun c9 => absurd c9 (by decide +kernel))
  refine lv_iinc (v := nI 3) (lv' := [(1, .int (nI 3)), (0, .ref (ad 70))]) C.hx C.hb dL_most_94 hl (k := 0) rfl (by decide +kernel) (by decide) rfl (fun ls hl => ?_)
  refine lv_goto (tgt := 53) C.hx C.hb dL_most_97 (by decide) ?_
  refine lv_iload_n C.hx C.hb dL_most_53 rfl (lv_at hl 0 rfl) ?_
  refine lv_bipush (v := nI 41) C.hx C.hb dL_most_54 (by decide +kernel) ?_
  refine lv_icmp_ge (tgt := 100) C.hx C.hb dL_most_56 (by decide) (fun c9 => absurd c9 (by decide +kernel)) (fun _ => ?_)
  refine lv_aload_n C.hx C.hb dL_most_59 rfl (lv_at hl 1 rfl) ?_
  refine lv_iconst (v := nI 3) C.hx C.hb dL_most_60 (by decide +kernel) ?_
  refine lv_iload_n C.hx C.hb dL_most_61 rfl (lv_at hl 0 rfl) ?_
  refine lv_bipush (v := nI 15) C.hx C.hb dL_most_62 (by decide +kernel) ?_
  refine lv_irem C.hx C.hb dL_most_64 (by decide +kernel) ?_
  refine q_top (y := nI 3) (by decide +kernel) ?_
  refine lv_iload_n C.hx C.hb dL_most_65 rfl (lv_at hl 0 rfl) ?_
  refine lv_bipush (v := nI 15) C.hx C.hb dL_most_66 (by decide +kernel) ?_
  refine lv_irem C.hx C.hb dL_most_68 (by decide +kernel) ?_
  refine q_top (y := nI 3) (by decide +kernel) ?_
  refine lv_iconst (v := nI 1) C.hx C.hb dL_most_69 (by decide +kernel) ?_
  refine lv_iadd C.hx C.hb dL_most_70 ?_
  refine q_top (y := nI 4) (by decide +kernel) ?_
  refine lv_bipush (v := -50) C.hx C.hb dL_most_71 (by decide +kernel) ?_
  refine lv_iconst (v := nI 0) C.hx C.hb dL_most_73 (by decide +kernel) ?_
  refine q_cA (L := S56) (L' := S57) (r := nI 0) (c2 := 87) (s2 := 1099) (As := [.int (nI 3), .int (nI 3), .int (nI 4), .int (-50), .int (nI 0)]) C hs hP hD hS (ca_ahead (nI 3) (nI 4) (-50) (nI 0) (nI 0) (cs_aheadC S57 3 4 (-50) 0 [] (by decide +kernel))) kl_L_102 hl rfl rfl (Nat.le_of_ble_eq_true rfl) ⟨Nat.le_of_ble_eq_true rfl, Nat.le_of_ble_eq_true rfl⟩ ⟨Nat.le_of_ble_eq_true rfl, Nat.le_of_ble_eq_true rfl⟩ ⟨Nat.le_of_ble_eq_true rfl, Nat.le_of_ble_eq_true rfl⟩ dL_most_74 (fun g z H locs hs hP hD hS => ?_)
  refine lv_iload_n C.hx C.hb dL_most_77 rfl (lv_at hl 0 rfl) ?_
  refine lv_bipush (v := nI 40) C.hx C.hb dL_most_78 (by decide +kernel) ?_
  refine lv_icmp_ge (tgt := 87) C.hx C.hb dL_most_80 (by decide) (fun c9 => absurd c9 (by decide +kernel)) (fun _ => ?_)
  refine lv_iconst (v := nI 0) C.hx C.hb dL_most_83 (by decide +kernel) ?_
  refine lv_goto (tgt := 89) C.hx C.hb dL_most_84 (by decide) ?_
  refine lv_icmp_eq (tgt := 94) C.hx C.hb dL_most_89 (by decide) (fun _ => ?_) (fun c9 => absurd c9 (by decide +kernel))
  refine lv_iinc (v := nI 4) (lv' := [(1, .int (nI 4)), (0, .ref (ad 70))]) C.hx C.hb dL_most_94 hl (k := 0) rfl (by decide +kernel) (by decide) rfl (fun ls hl => ?_)
  refine lv_goto (tgt := 53) C.hx C.hb dL_most_97 (by decide) ?_
  refine lv_iload_n C.hx C.hb dL_most_53 rfl (lv_at hl 0 rfl) ?_
  refine lv_bipush (v := nI 41) C.hx C.hb dL_most_54 (by decide +kernel) ?_
  refine lv_icmp_ge (tgt := 100) C.hx C.hb dL_most_56 (by decide) (fun c9 => absurd c9 (by decide +kernel)) (fun _ => ?_)
  refine lv_aload_n C.hx C.hb dL_most_59 rfl (lv_at hl 1 rfl) ?_
  refine lv_iconst (v := nI 3) C.hx C.hb dL_most_60 (by decide +kernel) ?_
  refine lv_iload_n C.hx C.hb dL_most_61 rfl (lv_at hl 0 rfl) ?_
  refine lv_bipush (v := nI 15) C.hx C.hb dL_most_62 (by decide +kernel) ?_
  refine lv_irem C.hx C.hb dL_most_64 (by decide +kernel) ?_
  refine q_top (y := nI 4) (by decide +kernel) ?_
  refine lv_iload_n C.hx C.hb dL_most_65 rfl (lv_at hl 0 rfl) ?_
  refine lv_bipush (v := nI 15) C.hx C.hb dL_most_66 (by decide +kernel) ?_
  refine lv_irem C.hx C.hb dL_most_68 (by decide +kernel) ?_
  refine q_top (y := nI 4) (by decide +kernel) ?_
  refine lv_iconst (v := nI 1) C.hx C.hb dL_most_69 (by decide +kernel) ?_
  refine lv_iadd C.hx C.hb dL_most_70 ?_
  refine q_top (y := nI 5) (by decide +kernel) ?_
  refine lv_bipush (v := -50) C.hx C.hb dL_most_71 (by decide +kernel) ?_
  refine lv_iconst (v := nI 0) C.hx C.hb dL_most_73 (by decide +kernel) ?_
  refine q_cA (L := S57) (L' := S58) (r := nI 0) (c2 := 88) (s2 := 1105) (As := [.int (nI 3), .int (nI 4), .int (nI 5), .int (-50), .int (nI 0)]) C hs hP hD hS (ca_ahead (nI 4) (nI 5) (-50) (nI 0) (nI 0) (cs_aheadC S58 4 5 (-50) 0 [] (by decide +kernel))) kl_L_102 hl rfl rfl (Nat.le_of_ble_eq_true rfl) ⟨Nat.le_of_ble_eq_true rfl, Nat.le_of_ble_eq_true rfl⟩ ⟨Nat.le_of_ble_eq_true rfl, Nat.le_of_ble_eq_true rfl⟩ ⟨Nat.le_of_ble_eq_true rfl, Nat.le_of_ble_eq_true rfl⟩ dL_most_74 (fun g z H locs hs hP hD hS => ?_)
  refine lv_iload_n C.hx C.hb dL_most_77 rfl (lv_at hl 0 rfl) ?_
  refine lv_bipush (v := nI 40) C.hx C.hb dL_most_78 (by decide +kernel) ?_
  refine lv_icmp_ge (tgt := 87) C.hx C.hb dL_most_80 (by decide) (fun c9 => absurd c9 (by decide +kernel)) (fun _ => ?_)
  refine lv_iconst (v := nI 0) C.hx C.hb dL_most_83 (by decide +kernel) ?_
  refine lv_goto (tgt := 89) C.hx C.hb dL_most_84 (by decide) ?_
  refine lv_icmp_eq (tgt := 94) C.hx C.hb dL_most_89 (by decide) (fun _ => ?_) (fun c9 => absurd c9 (by decide +kernel))
  exact kk g z H locs ls hs hP hD hS hl

set_option maxRecDepth 100000 in
set_option maxHeartbeats 4000000 in
theorem tr_most_6 {p : Program} {l : Launch} {e : Env} {s : State} {m : MethodId} {args : Array Value} {below : List Frame} {meth : Method} {c : Code} {D : va_G} {cA : ClassId} {A : Nat → Prop} {ad : Nat → Nat} {Q : State → Prop} (C : lcx p l s m c cL_most 2 D cA A) (kk : ∀ (g : Nat → Nat → Int32) (z : Nat → Nat) (H : Heap) (locs : List Loc) (ls : Array Slot), isL S61 g z → va_P D vwCl (rlW cA ad g z) H → va_D A (rlW cA ad g z) → va_S A s.heap H locs → lv_has ls 2 [(1, .int (nI 7)), (0, .ref (ad 70))] → W p l e rm_Lmost s m args below meth c H locs 91 1123 Q (F0 m 94 ls [])) : ∀ (g : Nat → Nat → Int32) (z : Nat → Nat) (H : Heap) (locs : List Loc) (ls : Array Slot), isL S58 g z → va_P D vwCl (rlW cA ad g z) H → va_D A (rlW cA ad g z) → va_S A s.heap H locs → lv_has ls 2 [(1, .int (nI 4)), (0, .ref (ad 70))] → W p l e rm_Lmost s m args below meth c H locs 88 1105 Q (F0 m 94 ls []) := by
  intro g z H locs ls hs hP hD hS hl
  refine lv_iinc (v := nI 5) (lv' := [(1, .int (nI 5)), (0, .ref (ad 70))]) C.hx C.hb dL_most_94 hl (k := 0) rfl (by decide +kernel) (by decide) rfl (fun ls hl => ?_)
  refine lv_goto (tgt := 53) C.hx C.hb dL_most_97 (by decide) ?_
  refine lv_iload_n C.hx C.hb dL_most_53 rfl (lv_at hl 0 rfl) ?_
  refine lv_bipush (v := nI 41) C.hx C.hb dL_most_54 (by decide +kernel) ?_
  refine lv_icmp_ge (tgt := 100) C.hx C.hb dL_most_56 (by decide) (fun c9 => absurd c9 (by decide +kernel)) (fun _ => ?_)
  refine lv_aload_n C.hx C.hb dL_most_59 rfl (lv_at hl 1 rfl) ?_
  refine lv_iconst (v := nI 3) C.hx C.hb dL_most_60 (by decide +kernel) ?_
  refine lv_iload_n C.hx C.hb dL_most_61 rfl (lv_at hl 0 rfl) ?_
  refine lv_bipush (v := nI 15) C.hx C.hb dL_most_62 (by decide +kernel) ?_
  refine lv_irem C.hx C.hb dL_most_64 (by decide +kernel) ?_
  refine q_top (y := nI 5) (by decide +kernel) ?_
  refine lv_iload_n C.hx C.hb dL_most_65 rfl (lv_at hl 0 rfl) ?_
  refine lv_bipush (v := nI 15) C.hx C.hb dL_most_66 (by decide +kernel) ?_
  refine lv_irem C.hx C.hb dL_most_68 (by decide +kernel) ?_
  refine q_top (y := nI 5) (by decide +kernel) ?_
  refine lv_iconst (v := nI 1) C.hx C.hb dL_most_69 (by decide +kernel) ?_
  refine lv_iadd C.hx C.hb dL_most_70 ?_
  refine q_top (y := nI 6) (by decide +kernel) ?_
  refine lv_bipush (v := -50) C.hx C.hb dL_most_71 (by decide +kernel) ?_
  refine lv_iconst (v := nI 0) C.hx C.hb dL_most_73 (by decide +kernel) ?_
  refine q_cA (L := S58) (L' := S59) (r := nI 0) (c2 := 89) (s2 := 1111) (As := [.int (nI 3), .int (nI 5), .int (nI 6), .int (-50), .int (nI 0)]) C hs hP hD hS (ca_ahead (nI 5) (nI 6) (-50) (nI 0) (nI 0) (cs_aheadC S59 5 6 (-50) 0 [] (by decide +kernel))) kl_L_102 hl rfl rfl (Nat.le_of_ble_eq_true rfl) ⟨Nat.le_of_ble_eq_true rfl, Nat.le_of_ble_eq_true rfl⟩ ⟨Nat.le_of_ble_eq_true rfl, Nat.le_of_ble_eq_true rfl⟩ ⟨Nat.le_of_ble_eq_true rfl, Nat.le_of_ble_eq_true rfl⟩ dL_most_74 (fun g z H locs hs hP hD hS => ?_)
  refine lv_iload_n C.hx C.hb dL_most_77 rfl (lv_at hl 0 rfl) ?_
  refine lv_bipush (v := nI 40) C.hx C.hb dL_most_78 (by decide +kernel) ?_
  refine lv_icmp_ge (tgt := 87) C.hx C.hb dL_most_80 (by decide) (fun c9 => absurd c9 (by decide +kernel)) (fun _ => ?_)
  refine lv_iconst (v := nI 0) C.hx C.hb dL_most_83 (by decide +kernel) ?_
  refine lv_goto (tgt := 89) C.hx C.hb dL_most_84 (by decide) ?_
  refine lv_icmp_eq (tgt := 94) C.hx C.hb dL_most_89 (by decide) (fun _ => ?_) (fun c9 => absurd c9 (by decide +kernel))
  refine lv_iinc (v := nI 6) (lv' := [(1, .int (nI 6)), (0, .ref (ad 70))]) C.hx C.hb dL_most_94 hl (k := 0) rfl (by decide +kernel) (by decide) rfl (fun ls hl => ?_)
  refine lv_goto (tgt := 53) C.hx C.hb dL_most_97 (by decide) ?_
  refine lv_iload_n C.hx C.hb dL_most_53 rfl (lv_at hl 0 rfl) ?_
  refine lv_bipush (v := nI 41) C.hx C.hb dL_most_54 (by decide +kernel) ?_
  refine lv_icmp_ge (tgt := 100) C.hx C.hb dL_most_56 (by decide) (fun c9 => absurd c9 (by decide +kernel)) (fun _ => ?_)
  refine lv_aload_n C.hx C.hb dL_most_59 rfl (lv_at hl 1 rfl) ?_
  refine lv_iconst (v := nI 3) C.hx C.hb dL_most_60 (by decide +kernel) ?_
  refine lv_iload_n C.hx C.hb dL_most_61 rfl (lv_at hl 0 rfl) ?_
  refine lv_bipush (v := nI 15) C.hx C.hb dL_most_62 (by decide +kernel) ?_
  refine lv_irem C.hx C.hb dL_most_64 (by decide +kernel) ?_
  refine q_top (y := nI 6) (by decide +kernel) ?_
  refine lv_iload_n C.hx C.hb dL_most_65 rfl (lv_at hl 0 rfl) ?_
  refine lv_bipush (v := nI 15) C.hx C.hb dL_most_66 (by decide +kernel) ?_
  refine lv_irem C.hx C.hb dL_most_68 (by decide +kernel) ?_
  refine q_top (y := nI 6) (by decide +kernel) ?_
  refine lv_iconst (v := nI 1) C.hx C.hb dL_most_69 (by decide +kernel) ?_
  refine lv_iadd C.hx C.hb dL_most_70 ?_
  refine q_top (y := nI 7) (by decide +kernel) ?_
  refine lv_bipush (v := -50) C.hx C.hb dL_most_71 (by decide +kernel) ?_
  refine lv_iconst (v := nI 0) C.hx C.hb dL_most_73 (by decide +kernel) ?_
  refine q_cA (L := S59) (L' := S60) (r := nI 0) (c2 := 90) (s2 := 1117) (As := [.int (nI 3), .int (nI 6), .int (nI 7), .int (-50), .int (nI 0)]) C hs hP hD hS (ca_ahead (nI 6) (nI 7) (-50) (nI 0) (nI 0) (cs_aheadC S60 6 7 (-50) 0 [] (by decide +kernel))) kl_L_102 hl rfl rfl (Nat.le_of_ble_eq_true rfl) ⟨Nat.le_of_ble_eq_true rfl, Nat.le_of_ble_eq_true rfl⟩ ⟨Nat.le_of_ble_eq_true rfl, Nat.le_of_ble_eq_true rfl⟩ ⟨Nat.le_of_ble_eq_true rfl, Nat.le_of_ble_eq_true rfl⟩ dL_most_74 (fun g z H locs hs hP hD hS => ?_)
  refine lv_iload_n C.hx C.hb dL_most_77 rfl (lv_at hl 0 rfl) ?_
  refine lv_bipush (v := nI 40) C.hx C.hb dL_most_78 (by decide +kernel) ?_
  refine lv_icmp_ge (tgt := 87) C.hx C.hb dL_most_80 (by decide) (fun c9 => absurd c9 (by decide +kernel)) (fun _ => ?_)
  refine lv_iconst (v := nI 0) C.hx C.hb dL_most_83 (by decide +kernel) ?_
  refine lv_goto (tgt := 89) C.hx C.hb dL_most_84 (by decide) ?_
  refine lv_icmp_eq (tgt := 94) C.hx C.hb dL_most_89 (by decide) (fun _ => ?_) (fun c9 => absurd c9 (by decide +kernel))
  refine lv_iinc (v := nI 7) (lv' := [(1, .int (nI 7)), (0, .ref (ad 70))]) C.hx C.hb dL_most_94 hl (k := 0) rfl (by decide +kernel) (by decide) rfl (fun ls hl => ?_)
  refine lv_goto (tgt := 53) C.hx C.hb dL_most_97 (by decide) ?_
  refine lv_iload_n C.hx C.hb dL_most_53 rfl (lv_at hl 0 rfl) ?_
  refine lv_bipush (v := nI 41) C.hx C.hb dL_most_54 (by decide +kernel) ?_
  refine lv_icmp_ge (tgt := 100) C.hx C.hb dL_most_56 (by decide) (fun c9 => absurd c9 (by decide +kernel)) (fun _ => ?_)
  refine lv_aload_n C.hx C.hb dL_most_59 rfl (lv_at hl 1 rfl) ?_
  refine lv_iconst (v := nI 3) C.hx C.hb dL_most_60 (by decide +kernel) ?_
  refine lv_iload_n C.hx C.hb dL_most_61 rfl (lv_at hl 0 rfl) ?_
  refine lv_bipush (v := nI 15) C.hx C.hb dL_most_62 (by decide +kernel) ?_
  refine lv_irem C.hx C.hb dL_most_64 (by decide +kernel) ?_
  refine q_top (y := nI 7) (by decide +kernel) ?_
  refine lv_iload_n C.hx C.hb dL_most_65 rfl (lv_at hl 0 rfl) ?_
  refine lv_bipush (v := nI 15) C.hx C.hb dL_most_66 (by decide +kernel) ?_
  refine lv_irem C.hx C.hb dL_most_68 (by decide +kernel) ?_
  refine q_top (y := nI 7) (by decide +kernel) ?_
  refine lv_iconst (v := nI 1) C.hx C.hb dL_most_69 (by decide +kernel) ?_
  refine lv_iadd C.hx C.hb dL_most_70 ?_
  refine q_top (y := nI 8) (by decide +kernel) ?_
  refine lv_bipush (v := -50) C.hx C.hb dL_most_71 (by decide +kernel) ?_
  refine lv_iconst (v := nI 0) C.hx C.hb dL_most_73 (by decide +kernel) ?_
  refine q_cA (L := S60) (L' := S61) (r := nI 0) (c2 := 91) (s2 := 1123) (As := [.int (nI 3), .int (nI 7), .int (nI 8), .int (-50), .int (nI 0)]) C hs hP hD hS (ca_ahead (nI 7) (nI 8) (-50) (nI 0) (nI 0) (cs_aheadC S61 7 8 (-50) 0 [] (by decide +kernel))) kl_L_102 hl rfl rfl (Nat.le_of_ble_eq_true rfl) ⟨Nat.le_of_ble_eq_true rfl, Nat.le_of_ble_eq_true rfl⟩ ⟨Nat.le_of_ble_eq_true rfl, Nat.le_of_ble_eq_true rfl⟩ ⟨Nat.le_of_ble_eq_true rfl, Nat.le_of_ble_eq_true rfl⟩ dL_most_74 (fun g z H locs hs hP hD hS => ?_)
  refine lv_iload_n C.hx C.hb dL_most_77 rfl (lv_at hl 0 rfl) ?_
  refine lv_bipush (v := nI 40) C.hx C.hb dL_most_78 (by decide +kernel) ?_
  refine lv_icmp_ge (tgt := 87) C.hx C.hb dL_most_80 (by decide) (fun c9 => absurd c9 (by decide +kernel)) (fun _ => ?_)
  refine lv_iconst (v := nI 0) C.hx C.hb dL_most_83 (by decide +kernel) ?_
  refine lv_goto (tgt := 89) C.hx C.hb dL_most_84 (by decide) ?_
  refine lv_icmp_eq (tgt := 94) C.hx C.hb dL_most_89 (by decide) (fun _ => ?_) (fun c9 => absurd c9 (by decide +kernel))
  exact kk g z H locs ls hs hP hD hS hl

set_option maxRecDepth 100000 in
set_option maxHeartbeats 4000000 in
theorem tr_most_7 {p : Program} {l : Launch} {e : Env} {s : State} {m : MethodId} {args : Array Value} {below : List Frame} {meth : Method} {c : Code} {D : va_G} {cA : ClassId} {A : Nat → Prop} {ad : Nat → Nat} {Q : State → Prop} (C : lcx p l s m c cL_most 2 D cA A) (kk : ∀ (g : Nat → Nat → Int32) (z : Nat → Nat) (H : Heap) (locs : List Loc) (ls : Array Slot), isL S64 g z → va_P D vwCl (rlW cA ad g z) H → va_D A (rlW cA ad g z) → va_S A s.heap H locs → lv_has ls 2 [(1, .int (nI 10)), (0, .ref (ad 70))] → W p l e rm_Lmost s m args below meth c H locs 94 1141 Q (F0 m 94 ls [])) : ∀ (g : Nat → Nat → Int32) (z : Nat → Nat) (H : Heap) (locs : List Loc) (ls : Array Slot), isL S61 g z → va_P D vwCl (rlW cA ad g z) H → va_D A (rlW cA ad g z) → va_S A s.heap H locs → lv_has ls 2 [(1, .int (nI 7)), (0, .ref (ad 70))] → W p l e rm_Lmost s m args below meth c H locs 91 1123 Q (F0 m 94 ls []) := by
  intro g z H locs ls hs hP hD hS hl
  refine lv_iinc (v := nI 8) (lv' := [(1, .int (nI 8)), (0, .ref (ad 70))]) C.hx C.hb dL_most_94 hl (k := 0) rfl (by decide +kernel) (by decide) rfl (fun ls hl => ?_)
  refine lv_goto (tgt := 53) C.hx C.hb dL_most_97 (by decide) ?_
  refine lv_iload_n C.hx C.hb dL_most_53 rfl (lv_at hl 0 rfl) ?_
  refine lv_bipush (v := nI 41) C.hx C.hb dL_most_54 (by decide +kernel) ?_
  refine lv_icmp_ge (tgt := 100) C.hx C.hb dL_most_56 (by decide) (fun c9 => absurd c9 (by decide +kernel)) (fun _ => ?_)
  refine lv_aload_n C.hx C.hb dL_most_59 rfl (lv_at hl 1 rfl) ?_
  refine lv_iconst (v := nI 3) C.hx C.hb dL_most_60 (by decide +kernel) ?_
  refine lv_iload_n C.hx C.hb dL_most_61 rfl (lv_at hl 0 rfl) ?_
  refine lv_bipush (v := nI 15) C.hx C.hb dL_most_62 (by decide +kernel) ?_
  refine lv_irem C.hx C.hb dL_most_64 (by decide +kernel) ?_
  refine q_top (y := nI 8) (by decide +kernel) ?_
  refine lv_iload_n C.hx C.hb dL_most_65 rfl (lv_at hl 0 rfl) ?_
  refine lv_bipush (v := nI 15) C.hx C.hb dL_most_66 (by decide +kernel) ?_
  refine lv_irem C.hx C.hb dL_most_68 (by decide +kernel) ?_
  refine q_top (y := nI 8) (by decide +kernel) ?_
  refine lv_iconst (v := nI 1) C.hx C.hb dL_most_69 (by decide +kernel) ?_
  refine lv_iadd C.hx C.hb dL_most_70 ?_
  refine q_top (y := nI 9) (by decide +kernel) ?_
  refine lv_bipush (v := -50) C.hx C.hb dL_most_71 (by decide +kernel) ?_
  refine lv_iconst (v := nI 0) C.hx C.hb dL_most_73 (by decide +kernel) ?_
  refine q_cA (L := S61) (L' := S62) (r := nI 0) (c2 := 92) (s2 := 1129) (As := [.int (nI 3), .int (nI 8), .int (nI 9), .int (-50), .int (nI 0)]) C hs hP hD hS (ca_ahead (nI 8) (nI 9) (-50) (nI 0) (nI 0) (cs_aheadC S62 8 9 (-50) 0 [] (by decide +kernel))) kl_L_102 hl rfl rfl (Nat.le_of_ble_eq_true rfl) ⟨Nat.le_of_ble_eq_true rfl, Nat.le_of_ble_eq_true rfl⟩ ⟨Nat.le_of_ble_eq_true rfl, Nat.le_of_ble_eq_true rfl⟩ ⟨Nat.le_of_ble_eq_true rfl, Nat.le_of_ble_eq_true rfl⟩ dL_most_74 (fun g z H locs hs hP hD hS => ?_)
  refine lv_iload_n C.hx C.hb dL_most_77 rfl (lv_at hl 0 rfl) ?_
  refine lv_bipush (v := nI 40) C.hx C.hb dL_most_78 (by decide +kernel) ?_
  refine lv_icmp_ge (tgt := 87) C.hx C.hb dL_most_80 (by decide) (fun c9 => absurd c9 (by decide +kernel)) (fun _ => ?_)
  refine lv_iconst (v := nI 0) C.hx C.hb dL_most_83 (by decide +kernel) ?_
  refine lv_goto (tgt := 89) C.hx C.hb dL_most_84 (by decide) ?_
  refine lv_icmp_eq (tgt := 94) C.hx C.hb dL_most_89 (by decide) (fun _ => ?_) (fun c9 => absurd c9 (by decide +kernel))
  refine lv_iinc (v := nI 9) (lv' := [(1, .int (nI 9)), (0, .ref (ad 70))]) C.hx C.hb dL_most_94 hl (k := 0) rfl (by decide +kernel) (by decide) rfl (fun ls hl => ?_)
  refine lv_goto (tgt := 53) C.hx C.hb dL_most_97 (by decide) ?_
  refine lv_iload_n C.hx C.hb dL_most_53 rfl (lv_at hl 0 rfl) ?_
  refine lv_bipush (v := nI 41) C.hx C.hb dL_most_54 (by decide +kernel) ?_
  refine lv_icmp_ge (tgt := 100) C.hx C.hb dL_most_56 (by decide) (fun c9 => absurd c9 (by decide +kernel)) (fun _ => ?_)
  refine lv_aload_n C.hx C.hb dL_most_59 rfl (lv_at hl 1 rfl) ?_
  refine lv_iconst (v := nI 3) C.hx C.hb dL_most_60 (by decide +kernel) ?_
  refine lv_iload_n C.hx C.hb dL_most_61 rfl (lv_at hl 0 rfl) ?_
  refine lv_bipush (v := nI 15) C.hx C.hb dL_most_62 (by decide +kernel) ?_
  refine lv_irem C.hx C.hb dL_most_64 (by decide +kernel) ?_
  refine q_top (y := nI 9) (by decide +kernel) ?_
  refine lv_iload_n C.hx C.hb dL_most_65 rfl (lv_at hl 0 rfl) ?_
  refine lv_bipush (v := nI 15) C.hx C.hb dL_most_66 (by decide +kernel) ?_
  refine lv_irem C.hx C.hb dL_most_68 (by decide +kernel) ?_
  refine q_top (y := nI 9) (by decide +kernel) ?_
  refine lv_iconst (v := nI 1) C.hx C.hb dL_most_69 (by decide +kernel) ?_
  refine lv_iadd C.hx C.hb dL_most_70 ?_
  refine q_top (y := nI 10) (by decide +kernel) ?_
  refine lv_bipush (v := -50) C.hx C.hb dL_most_71 (by decide +kernel) ?_
  refine lv_iconst (v := nI 0) C.hx C.hb dL_most_73 (by decide +kernel) ?_
  refine q_cA (L := S62) (L' := S63) (r := nI 0) (c2 := 93) (s2 := 1135) (As := [.int (nI 3), .int (nI 9), .int (nI 10), .int (-50), .int (nI 0)]) C hs hP hD hS (ca_ahead (nI 9) (nI 10) (-50) (nI 0) (nI 0) (cs_aheadC S63 9 10 (-50) 0 [] (by decide +kernel))) kl_L_102 hl rfl rfl (Nat.le_of_ble_eq_true rfl) ⟨Nat.le_of_ble_eq_true rfl, Nat.le_of_ble_eq_true rfl⟩ ⟨Nat.le_of_ble_eq_true rfl, Nat.le_of_ble_eq_true rfl⟩ ⟨Nat.le_of_ble_eq_true rfl, Nat.le_of_ble_eq_true rfl⟩ dL_most_74 (fun g z H locs hs hP hD hS => ?_)
  refine lv_iload_n C.hx C.hb dL_most_77 rfl (lv_at hl 0 rfl) ?_
  refine lv_bipush (v := nI 40) C.hx C.hb dL_most_78 (by decide +kernel) ?_
  refine lv_icmp_ge (tgt := 87) C.hx C.hb dL_most_80 (by decide) (fun c9 => absurd c9 (by decide +kernel)) (fun _ => ?_)
  refine lv_iconst (v := nI 0) C.hx C.hb dL_most_83 (by decide +kernel) ?_
  refine lv_goto (tgt := 89) C.hx C.hb dL_most_84 (by decide) ?_
  refine lv_icmp_eq (tgt := 94) C.hx C.hb dL_most_89 (by decide) (fun _ => ?_) (fun c9 => absurd c9 (by decide +kernel))
  refine lv_iinc (v := nI 10) (lv' := [(1, .int (nI 10)), (0, .ref (ad 70))]) C.hx C.hb dL_most_94 hl (k := 0) rfl (by decide +kernel) (by decide) rfl (fun ls hl => ?_)
  refine lv_goto (tgt := 53) C.hx C.hb dL_most_97 (by decide) ?_
  refine lv_iload_n C.hx C.hb dL_most_53 rfl (lv_at hl 0 rfl) ?_
  refine lv_bipush (v := nI 41) C.hx C.hb dL_most_54 (by decide +kernel) ?_
  refine lv_icmp_ge (tgt := 100) C.hx C.hb dL_most_56 (by decide) (fun c9 => absurd c9 (by decide +kernel)) (fun _ => ?_)
  refine lv_aload_n C.hx C.hb dL_most_59 rfl (lv_at hl 1 rfl) ?_
  refine lv_iconst (v := nI 3) C.hx C.hb dL_most_60 (by decide +kernel) ?_
  refine lv_iload_n C.hx C.hb dL_most_61 rfl (lv_at hl 0 rfl) ?_
  refine lv_bipush (v := nI 15) C.hx C.hb dL_most_62 (by decide +kernel) ?_
  refine lv_irem C.hx C.hb dL_most_64 (by decide +kernel) ?_
  refine q_top (y := nI 10) (by decide +kernel) ?_
  refine lv_iload_n C.hx C.hb dL_most_65 rfl (lv_at hl 0 rfl) ?_
  refine lv_bipush (v := nI 15) C.hx C.hb dL_most_66 (by decide +kernel) ?_
  refine lv_irem C.hx C.hb dL_most_68 (by decide +kernel) ?_
  refine q_top (y := nI 10) (by decide +kernel) ?_
  refine lv_iconst (v := nI 1) C.hx C.hb dL_most_69 (by decide +kernel) ?_
  refine lv_iadd C.hx C.hb dL_most_70 ?_
  refine q_top (y := nI 11) (by decide +kernel) ?_
  refine lv_bipush (v := -50) C.hx C.hb dL_most_71 (by decide +kernel) ?_
  refine lv_iconst (v := nI 0) C.hx C.hb dL_most_73 (by decide +kernel) ?_
  refine q_cA (L := S63) (L' := S64) (r := nI 0) (c2 := 94) (s2 := 1141) (As := [.int (nI 3), .int (nI 10), .int (nI 11), .int (-50), .int (nI 0)]) C hs hP hD hS (ca_ahead (nI 10) (nI 11) (-50) (nI 0) (nI 0) (cs_aheadC S64 10 11 (-50) 0 [] (by decide +kernel))) kl_L_102 hl rfl rfl (Nat.le_of_ble_eq_true rfl) ⟨Nat.le_of_ble_eq_true rfl, Nat.le_of_ble_eq_true rfl⟩ ⟨Nat.le_of_ble_eq_true rfl, Nat.le_of_ble_eq_true rfl⟩ ⟨Nat.le_of_ble_eq_true rfl, Nat.le_of_ble_eq_true rfl⟩ dL_most_74 (fun g z H locs hs hP hD hS => ?_)
  refine lv_iload_n C.hx C.hb dL_most_77 rfl (lv_at hl 0 rfl) ?_
  refine lv_bipush (v := nI 40) C.hx C.hb dL_most_78 (by decide +kernel) ?_
  refine lv_icmp_ge (tgt := 87) C.hx C.hb dL_most_80 (by decide) (fun c9 => absurd c9 (by decide +kernel)) (fun _ => ?_)
  refine lv_iconst (v := nI 0) C.hx C.hb dL_most_83 (by decide +kernel) ?_
  refine lv_goto (tgt := 89) C.hx C.hb dL_most_84 (by decide) ?_
  refine lv_icmp_eq (tgt := 94) C.hx C.hb dL_most_89 (by decide) (fun _ => ?_) (fun c9 => absurd c9 (by decide +kernel))
  exact kk g z H locs ls hs hP hD hS hl

set_option maxRecDepth 100000 in
set_option maxHeartbeats 4000000 in
theorem tr_most_8 {p : Program} {l : Launch} {e : Env} {s : State} {m : MethodId} {args : Array Value} {below : List Frame} {meth : Method} {c : Code} {D : va_G} {cA : ClassId} {A : Nat → Prop} {ad : Nat → Nat} {Q : State → Prop} (C : lcx p l s m c cL_most 2 D cA A) (kk : ∀ (g : Nat → Nat → Int32) (z : Nat → Nat) (H : Heap) (locs : List Loc) (ls : Array Slot), isL S67 g z → va_P D vwCl (rlW cA ad g z) H → va_D A (rlW cA ad g z) → va_S A s.heap H locs → lv_has ls 2 [(1, .int (nI 13)), (0, .ref (ad 70))] → W p l e rm_Lmost s m args below meth c H locs 97 1159 Q (F0 m 94 ls [])) : ∀ (g : Nat → Nat → Int32) (z : Nat → Nat) (H : Heap) (locs : List Loc) (ls : Array Slot), isL S64 g z → va_P D vwCl (rlW cA ad g z) H → va_D A (rlW cA ad g z) → va_S A s.heap H locs → lv_has ls 2 [(1, .int (nI 10)), (0, .ref (ad 70))] → W p l e rm_Lmost s m args below meth c H locs 94 1141 Q (F0 m 94 ls []) := by
  intro g z H locs ls hs hP hD hS hl
  refine lv_iinc (v := nI 11) (lv' := [(1, .int (nI 11)), (0, .ref (ad 70))]) C.hx C.hb dL_most_94 hl (k := 0) rfl (by decide +kernel) (by decide) rfl (fun ls hl => ?_)
  refine lv_goto (tgt := 53) C.hx C.hb dL_most_97 (by decide) ?_
  refine lv_iload_n C.hx C.hb dL_most_53 rfl (lv_at hl 0 rfl) ?_
  refine lv_bipush (v := nI 41) C.hx C.hb dL_most_54 (by decide +kernel) ?_
  refine lv_icmp_ge (tgt := 100) C.hx C.hb dL_most_56 (by decide) (fun c9 => absurd c9 (by decide +kernel)) (fun _ => ?_)
  refine lv_aload_n C.hx C.hb dL_most_59 rfl (lv_at hl 1 rfl) ?_
  refine lv_iconst (v := nI 3) C.hx C.hb dL_most_60 (by decide +kernel) ?_
  refine lv_iload_n C.hx C.hb dL_most_61 rfl (lv_at hl 0 rfl) ?_
  refine lv_bipush (v := nI 15) C.hx C.hb dL_most_62 (by decide +kernel) ?_
  refine lv_irem C.hx C.hb dL_most_64 (by decide +kernel) ?_
  refine q_top (y := nI 11) (by decide +kernel) ?_
  refine lv_iload_n C.hx C.hb dL_most_65 rfl (lv_at hl 0 rfl) ?_
  refine lv_bipush (v := nI 15) C.hx C.hb dL_most_66 (by decide +kernel) ?_
  refine lv_irem C.hx C.hb dL_most_68 (by decide +kernel) ?_
  refine q_top (y := nI 11) (by decide +kernel) ?_
  refine lv_iconst (v := nI 1) C.hx C.hb dL_most_69 (by decide +kernel) ?_
  refine lv_iadd C.hx C.hb dL_most_70 ?_
  refine q_top (y := nI 12) (by decide +kernel) ?_
  refine lv_bipush (v := -50) C.hx C.hb dL_most_71 (by decide +kernel) ?_
  refine lv_iconst (v := nI 0) C.hx C.hb dL_most_73 (by decide +kernel) ?_
  refine q_cA (L := S64) (L' := S65) (r := nI 0) (c2 := 95) (s2 := 1147) (As := [.int (nI 3), .int (nI 11), .int (nI 12), .int (-50), .int (nI 0)]) C hs hP hD hS (ca_ahead (nI 11) (nI 12) (-50) (nI 0) (nI 0) (cs_aheadC S65 11 12 (-50) 0 [] (by decide +kernel))) kl_L_102 hl rfl rfl (Nat.le_of_ble_eq_true rfl) ⟨Nat.le_of_ble_eq_true rfl, Nat.le_of_ble_eq_true rfl⟩ ⟨Nat.le_of_ble_eq_true rfl, Nat.le_of_ble_eq_true rfl⟩ ⟨Nat.le_of_ble_eq_true rfl, Nat.le_of_ble_eq_true rfl⟩ dL_most_74 (fun g z H locs hs hP hD hS => ?_)
  refine lv_iload_n C.hx C.hb dL_most_77 rfl (lv_at hl 0 rfl) ?_
  refine lv_bipush (v := nI 40) C.hx C.hb dL_most_78 (by decide +kernel) ?_
  refine lv_icmp_ge (tgt := 87) C.hx C.hb dL_most_80 (by decide) (fun c9 => absurd c9 (by decide +kernel)) (fun _ => ?_)
  refine lv_iconst (v := nI 0) C.hx C.hb dL_most_83 (by decide +kernel) ?_
  refine lv_goto (tgt := 89) C.hx C.hb dL_most_84 (by decide) ?_
  refine lv_icmp_eq (tgt := 94) C.hx C.hb dL_most_89 (by decide) (fun _ => ?_) (fun c9 => absurd c9 (by decide +kernel))
  refine lv_iinc (v := nI 12) (lv' := [(1, .int (nI 12)), (0, .ref (ad 70))]) C.hx C.hb dL_most_94 hl (k := 0) rfl (by decide +kernel) (by decide) rfl (fun ls hl => ?_)
  refine lv_goto (tgt := 53) C.hx C.hb dL_most_97 (by decide) ?_
  refine lv_iload_n C.hx C.hb dL_most_53 rfl (lv_at hl 0 rfl) ?_
  refine lv_bipush (v := nI 41) C.hx C.hb dL_most_54 (by decide +kernel) ?_
  refine lv_icmp_ge (tgt := 100) C.hx C.hb dL_most_56 (by decide) (fun c9 => absurd c9 (by decide +kernel)) (fun _ => ?_)
  refine lv_aload_n C.hx C.hb dL_most_59 rfl (lv_at hl 1 rfl) ?_
  refine lv_iconst (v := nI 3) C.hx C.hb dL_most_60 (by decide +kernel) ?_
  refine lv_iload_n C.hx C.hb dL_most_61 rfl (lv_at hl 0 rfl) ?_
  refine lv_bipush (v := nI 15) C.hx C.hb dL_most_62 (by decide +kernel) ?_
  refine lv_irem C.hx C.hb dL_most_64 (by decide +kernel) ?_
  refine q_top (y := nI 12) (by decide +kernel) ?_
  refine lv_iload_n C.hx C.hb dL_most_65 rfl (lv_at hl 0 rfl) ?_
  refine lv_bipush (v := nI 15) C.hx C.hb dL_most_66 (by decide +kernel) ?_
  refine lv_irem C.hx C.hb dL_most_68 (by decide +kernel) ?_
  refine q_top (y := nI 12) (by decide +kernel) ?_
  refine lv_iconst (v := nI 1) C.hx C.hb dL_most_69 (by decide +kernel) ?_
  refine lv_iadd C.hx C.hb dL_most_70 ?_
  refine q_top (y := nI 13) (by decide +kernel) ?_
  refine lv_bipush (v := -50) C.hx C.hb dL_most_71 (by decide +kernel) ?_
  refine lv_iconst (v := nI 0) C.hx C.hb dL_most_73 (by decide +kernel) ?_
  refine q_cA (L := S65) (L' := S66) (r := nI 0) (c2 := 96) (s2 := 1153) (As := [.int (nI 3), .int (nI 12), .int (nI 13), .int (-50), .int (nI 0)]) C hs hP hD hS (ca_ahead (nI 12) (nI 13) (-50) (nI 0) (nI 0) (cs_aheadC S66 12 13 (-50) 0 [] (by decide +kernel))) kl_L_102 hl rfl rfl (Nat.le_of_ble_eq_true rfl) ⟨Nat.le_of_ble_eq_true rfl, Nat.le_of_ble_eq_true rfl⟩ ⟨Nat.le_of_ble_eq_true rfl, Nat.le_of_ble_eq_true rfl⟩ ⟨Nat.le_of_ble_eq_true rfl, Nat.le_of_ble_eq_true rfl⟩ dL_most_74 (fun g z H locs hs hP hD hS => ?_)
  refine lv_iload_n C.hx C.hb dL_most_77 rfl (lv_at hl 0 rfl) ?_
  refine lv_bipush (v := nI 40) C.hx C.hb dL_most_78 (by decide +kernel) ?_
  refine lv_icmp_ge (tgt := 87) C.hx C.hb dL_most_80 (by decide) (fun c9 => absurd c9 (by decide +kernel)) (fun _ => ?_)
  refine lv_iconst (v := nI 0) C.hx C.hb dL_most_83 (by decide +kernel) ?_
  refine lv_goto (tgt := 89) C.hx C.hb dL_most_84 (by decide) ?_
  refine lv_icmp_eq (tgt := 94) C.hx C.hb dL_most_89 (by decide) (fun _ => ?_) (fun c9 => absurd c9 (by decide +kernel))
  refine lv_iinc (v := nI 13) (lv' := [(1, .int (nI 13)), (0, .ref (ad 70))]) C.hx C.hb dL_most_94 hl (k := 0) rfl (by decide +kernel) (by decide) rfl (fun ls hl => ?_)
  refine lv_goto (tgt := 53) C.hx C.hb dL_most_97 (by decide) ?_
  refine lv_iload_n C.hx C.hb dL_most_53 rfl (lv_at hl 0 rfl) ?_
  refine lv_bipush (v := nI 41) C.hx C.hb dL_most_54 (by decide +kernel) ?_
  refine lv_icmp_ge (tgt := 100) C.hx C.hb dL_most_56 (by decide) (fun c9 => absurd c9 (by decide +kernel)) (fun _ => ?_)
  refine lv_aload_n C.hx C.hb dL_most_59 rfl (lv_at hl 1 rfl) ?_
  refine lv_iconst (v := nI 3) C.hx C.hb dL_most_60 (by decide +kernel) ?_
  refine lv_iload_n C.hx C.hb dL_most_61 rfl (lv_at hl 0 rfl) ?_
  refine lv_bipush (v := nI 15) C.hx C.hb dL_most_62 (by decide +kernel) ?_
  refine lv_irem C.hx C.hb dL_most_64 (by decide +kernel) ?_
  refine q_top (y := nI 13) (by decide +kernel) ?_
  refine lv_iload_n C.hx C.hb dL_most_65 rfl (lv_at hl 0 rfl) ?_
  refine lv_bipush (v := nI 15) C.hx C.hb dL_most_66 (by decide +kernel) ?_
  refine lv_irem C.hx C.hb dL_most_68 (by decide +kernel) ?_
  refine q_top (y := nI 13) (by decide +kernel) ?_
  refine lv_iconst (v := nI 1) C.hx C.hb dL_most_69 (by decide +kernel) ?_
  refine lv_iadd C.hx C.hb dL_most_70 ?_
  refine q_top (y := nI 14) (by decide +kernel) ?_
  refine lv_bipush (v := -50) C.hx C.hb dL_most_71 (by decide +kernel) ?_
  refine lv_iconst (v := nI 0) C.hx C.hb dL_most_73 (by decide +kernel) ?_
  refine q_cA (L := S66) (L' := S67) (r := nI 0) (c2 := 97) (s2 := 1159) (As := [.int (nI 3), .int (nI 13), .int (nI 14), .int (-50), .int (nI 0)]) C hs hP hD hS (ca_ahead (nI 13) (nI 14) (-50) (nI 0) (nI 0) (cs_aheadC S67 13 14 (-50) 0 [] (by decide +kernel))) kl_L_102 hl rfl rfl (Nat.le_of_ble_eq_true rfl) ⟨Nat.le_of_ble_eq_true rfl, Nat.le_of_ble_eq_true rfl⟩ ⟨Nat.le_of_ble_eq_true rfl, Nat.le_of_ble_eq_true rfl⟩ ⟨Nat.le_of_ble_eq_true rfl, Nat.le_of_ble_eq_true rfl⟩ dL_most_74 (fun g z H locs hs hP hD hS => ?_)
  refine lv_iload_n C.hx C.hb dL_most_77 rfl (lv_at hl 0 rfl) ?_
  refine lv_bipush (v := nI 40) C.hx C.hb dL_most_78 (by decide +kernel) ?_
  refine lv_icmp_ge (tgt := 87) C.hx C.hb dL_most_80 (by decide) (fun c9 => absurd c9 (by decide +kernel)) (fun _ => ?_)
  refine lv_iconst (v := nI 0) C.hx C.hb dL_most_83 (by decide +kernel) ?_
  refine lv_goto (tgt := 89) C.hx C.hb dL_most_84 (by decide) ?_
  refine lv_icmp_eq (tgt := 94) C.hx C.hb dL_most_89 (by decide) (fun _ => ?_) (fun c9 => absurd c9 (by decide +kernel))
  exact kk g z H locs ls hs hP hD hS hl

set_option maxRecDepth 100000 in
set_option maxHeartbeats 4000000 in
theorem tr_most_9 {p : Program} {l : Launch} {e : Env} {s : State} {m : MethodId} {args : Array Value} {below : List Frame} {meth : Method} {c : Code} {D : va_G} {cA : ClassId} {A : Nat → Prop} {ad : Nat → Nat} {Q : State → Prop} (C : lcx p l s m c cL_most 2 D cA A) (kk : ∀ (g : Nat → Nat → Int32) (z : Nat → Nat) (H : Heap) (locs : List Loc) (ls : Array Slot), isL S70 g z → va_P D vwCl (rlW cA ad g z) H → va_D A (rlW cA ad g z) → va_S A s.heap H locs → lv_has ls 2 [(1, .int (nI 16)), (0, .ref (ad 70))] → W p l e rm_Lmost s m args below meth c H locs 100 1177 Q (F0 m 94 ls [])) : ∀ (g : Nat → Nat → Int32) (z : Nat → Nat) (H : Heap) (locs : List Loc) (ls : Array Slot), isL S67 g z → va_P D vwCl (rlW cA ad g z) H → va_D A (rlW cA ad g z) → va_S A s.heap H locs → lv_has ls 2 [(1, .int (nI 13)), (0, .ref (ad 70))] → W p l e rm_Lmost s m args below meth c H locs 97 1159 Q (F0 m 94 ls []) := by
  intro g z H locs ls hs hP hD hS hl
  refine lv_iinc (v := nI 14) (lv' := [(1, .int (nI 14)), (0, .ref (ad 70))]) C.hx C.hb dL_most_94 hl (k := 0) rfl (by decide +kernel) (by decide) rfl (fun ls hl => ?_)
  refine lv_goto (tgt := 53) C.hx C.hb dL_most_97 (by decide) ?_
  refine lv_iload_n C.hx C.hb dL_most_53 rfl (lv_at hl 0 rfl) ?_
  refine lv_bipush (v := nI 41) C.hx C.hb dL_most_54 (by decide +kernel) ?_
  refine lv_icmp_ge (tgt := 100) C.hx C.hb dL_most_56 (by decide) (fun c9 => absurd c9 (by decide +kernel)) (fun _ => ?_)
  refine lv_aload_n C.hx C.hb dL_most_59 rfl (lv_at hl 1 rfl) ?_
  refine lv_iconst (v := nI 3) C.hx C.hb dL_most_60 (by decide +kernel) ?_
  refine lv_iload_n C.hx C.hb dL_most_61 rfl (lv_at hl 0 rfl) ?_
  refine lv_bipush (v := nI 15) C.hx C.hb dL_most_62 (by decide +kernel) ?_
  refine lv_irem C.hx C.hb dL_most_64 (by decide +kernel) ?_
  refine q_top (y := nI 14) (by decide +kernel) ?_
  refine lv_iload_n C.hx C.hb dL_most_65 rfl (lv_at hl 0 rfl) ?_
  refine lv_bipush (v := nI 15) C.hx C.hb dL_most_66 (by decide +kernel) ?_
  refine lv_irem C.hx C.hb dL_most_68 (by decide +kernel) ?_
  refine q_top (y := nI 14) (by decide +kernel) ?_
  refine lv_iconst (v := nI 1) C.hx C.hb dL_most_69 (by decide +kernel) ?_
  refine lv_iadd C.hx C.hb dL_most_70 ?_
  refine q_top (y := nI 15) (by decide +kernel) ?_
  refine lv_bipush (v := -50) C.hx C.hb dL_most_71 (by decide +kernel) ?_
  refine lv_iconst (v := nI 0) C.hx C.hb dL_most_73 (by decide +kernel) ?_
  refine q_cA (L := S67) (L' := S68) (r := nI 0) (c2 := 98) (s2 := 1165) (As := [.int (nI 3), .int (nI 14), .int (nI 15), .int (-50), .int (nI 0)]) C hs hP hD hS (ca_ahead (nI 14) (nI 15) (-50) (nI 0) (nI 0) (cs_aheadC S68 14 15 (-50) 0 [] (by decide +kernel))) kl_L_102 hl rfl rfl (Nat.le_of_ble_eq_true rfl) ⟨Nat.le_of_ble_eq_true rfl, Nat.le_of_ble_eq_true rfl⟩ ⟨Nat.le_of_ble_eq_true rfl, Nat.le_of_ble_eq_true rfl⟩ ⟨Nat.le_of_ble_eq_true rfl, Nat.le_of_ble_eq_true rfl⟩ dL_most_74 (fun g z H locs hs hP hD hS => ?_)
  refine lv_iload_n C.hx C.hb dL_most_77 rfl (lv_at hl 0 rfl) ?_
  refine lv_bipush (v := nI 40) C.hx C.hb dL_most_78 (by decide +kernel) ?_
  refine lv_icmp_ge (tgt := 87) C.hx C.hb dL_most_80 (by decide) (fun c9 => absurd c9 (by decide +kernel)) (fun _ => ?_)
  refine lv_iconst (v := nI 0) C.hx C.hb dL_most_83 (by decide +kernel) ?_
  refine lv_goto (tgt := 89) C.hx C.hb dL_most_84 (by decide) ?_
  refine lv_icmp_eq (tgt := 94) C.hx C.hb dL_most_89 (by decide) (fun _ => ?_) (fun c9 => absurd c9 (by decide +kernel))
  refine lv_iinc (v := nI 15) (lv' := [(1, .int (nI 15)), (0, .ref (ad 70))]) C.hx C.hb dL_most_94 hl (k := 0) rfl (by decide +kernel) (by decide) rfl (fun ls hl => ?_)
  refine lv_goto (tgt := 53) C.hx C.hb dL_most_97 (by decide) ?_
  refine lv_iload_n C.hx C.hb dL_most_53 rfl (lv_at hl 0 rfl) ?_
  refine lv_bipush (v := nI 41) C.hx C.hb dL_most_54 (by decide +kernel) ?_
  refine lv_icmp_ge (tgt := 100) C.hx C.hb dL_most_56 (by decide) (fun c9 => absurd c9 (by decide +kernel)) (fun _ => ?_)
  refine lv_aload_n C.hx C.hb dL_most_59 rfl (lv_at hl 1 rfl) ?_
  refine lv_iconst (v := nI 3) C.hx C.hb dL_most_60 (by decide +kernel) ?_
  refine lv_iload_n C.hx C.hb dL_most_61 rfl (lv_at hl 0 rfl) ?_
  refine lv_bipush (v := nI 15) C.hx C.hb dL_most_62 (by decide +kernel) ?_
  refine lv_irem C.hx C.hb dL_most_64 (by decide +kernel) ?_
  refine q_top (y := nI 0) (by decide +kernel) ?_
  refine lv_iload_n C.hx C.hb dL_most_65 rfl (lv_at hl 0 rfl) ?_
  refine lv_bipush (v := nI 15) C.hx C.hb dL_most_66 (by decide +kernel) ?_
  refine lv_irem C.hx C.hb dL_most_68 (by decide +kernel) ?_
  refine q_top (y := nI 0) (by decide +kernel) ?_
  refine lv_iconst (v := nI 1) C.hx C.hb dL_most_69 (by decide +kernel) ?_
  refine lv_iadd C.hx C.hb dL_most_70 ?_
  refine q_top (y := nI 1) (by decide +kernel) ?_
  refine lv_bipush (v := -50) C.hx C.hb dL_most_71 (by decide +kernel) ?_
  refine lv_iconst (v := nI 0) C.hx C.hb dL_most_73 (by decide +kernel) ?_
  refine q_cA (L := S68) (L' := S69) (r := nI 0) (c2 := 99) (s2 := 1171) (As := [.int (nI 3), .int (nI 0), .int (nI 1), .int (-50), .int (nI 0)]) C hs hP hD hS (ca_ahead (nI 0) (nI 1) (-50) (nI 0) (nI 0) (cs_aheadC S69 0 1 (-50) 0 [] (by decide +kernel))) kl_L_102 hl rfl rfl (Nat.le_of_ble_eq_true rfl) ⟨Nat.le_of_ble_eq_true rfl, Nat.le_of_ble_eq_true rfl⟩ ⟨Nat.le_of_ble_eq_true rfl, Nat.le_of_ble_eq_true rfl⟩ ⟨Nat.le_of_ble_eq_true rfl, Nat.le_of_ble_eq_true rfl⟩ dL_most_74 (fun g z H locs hs hP hD hS => ?_)
  refine lv_iload_n C.hx C.hb dL_most_77 rfl (lv_at hl 0 rfl) ?_
  refine lv_bipush (v := nI 40) C.hx C.hb dL_most_78 (by decide +kernel) ?_
  refine lv_icmp_ge (tgt := 87) C.hx C.hb dL_most_80 (by decide) (fun c9 => absurd c9 (by decide +kernel)) (fun _ => ?_)
  refine lv_iconst (v := nI 0) C.hx C.hb dL_most_83 (by decide +kernel) ?_
  refine lv_goto (tgt := 89) C.hx C.hb dL_most_84 (by decide) ?_
  refine lv_icmp_eq (tgt := 94) C.hx C.hb dL_most_89 (by decide) (fun _ => ?_) (fun c9 => absurd c9 (by decide +kernel))
  refine lv_iinc (v := nI 16) (lv' := [(1, .int (nI 16)), (0, .ref (ad 70))]) C.hx C.hb dL_most_94 hl (k := 0) rfl (by decide +kernel) (by decide) rfl (fun ls hl => ?_)
  refine lv_goto (tgt := 53) C.hx C.hb dL_most_97 (by decide) ?_
  refine lv_iload_n C.hx C.hb dL_most_53 rfl (lv_at hl 0 rfl) ?_
  refine lv_bipush (v := nI 41) C.hx C.hb dL_most_54 (by decide +kernel) ?_
  refine lv_icmp_ge (tgt := 100) C.hx C.hb dL_most_56 (by decide) (fun c9 => absurd c9 (by decide +kernel)) (fun _ => ?_)
  refine lv_aload_n C.hx C.hb dL_most_59 rfl (lv_at hl 1 rfl) ?_
  refine lv_iconst (v := nI 3) C.hx C.hb dL_most_60 (by decide +kernel) ?_
  refine lv_iload_n C.hx C.hb dL_most_61 rfl (lv_at hl 0 rfl) ?_
  refine lv_bipush (v := nI 15) C.hx C.hb dL_most_62 (by decide +kernel) ?_
  refine lv_irem C.hx C.hb dL_most_64 (by decide +kernel) ?_
  refine q_top (y := nI 1) (by decide +kernel) ?_
  refine lv_iload_n C.hx C.hb dL_most_65 rfl (lv_at hl 0 rfl) ?_
  refine lv_bipush (v := nI 15) C.hx C.hb dL_most_66 (by decide +kernel) ?_
  refine lv_irem C.hx C.hb dL_most_68 (by decide +kernel) ?_
  refine q_top (y := nI 1) (by decide +kernel) ?_
  refine lv_iconst (v := nI 1) C.hx C.hb dL_most_69 (by decide +kernel) ?_
  refine lv_iadd C.hx C.hb dL_most_70 ?_
  refine q_top (y := nI 2) (by decide +kernel) ?_
  refine lv_bipush (v := -50) C.hx C.hb dL_most_71 (by decide +kernel) ?_
  refine lv_iconst (v := nI 0) C.hx C.hb dL_most_73 (by decide +kernel) ?_
  refine q_cA (L := S69) (L' := S70) (r := nI 0) (c2 := 100) (s2 := 1177) (As := [.int (nI 3), .int (nI 1), .int (nI 2), .int (-50), .int (nI 0)]) C hs hP hD hS (ca_ahead (nI 1) (nI 2) (-50) (nI 0) (nI 0) (cs_aheadC S70 1 2 (-50) 0 [] (by decide +kernel))) kl_L_102 hl rfl rfl (Nat.le_of_ble_eq_true rfl) ⟨Nat.le_of_ble_eq_true rfl, Nat.le_of_ble_eq_true rfl⟩ ⟨Nat.le_of_ble_eq_true rfl, Nat.le_of_ble_eq_true rfl⟩ ⟨Nat.le_of_ble_eq_true rfl, Nat.le_of_ble_eq_true rfl⟩ dL_most_74 (fun g z H locs hs hP hD hS => ?_)
  refine lv_iload_n C.hx C.hb dL_most_77 rfl (lv_at hl 0 rfl) ?_
  refine lv_bipush (v := nI 40) C.hx C.hb dL_most_78 (by decide +kernel) ?_
  refine lv_icmp_ge (tgt := 87) C.hx C.hb dL_most_80 (by decide) (fun c9 => absurd c9 (by decide +kernel)) (fun _ => ?_)
  refine lv_iconst (v := nI 0) C.hx C.hb dL_most_83 (by decide +kernel) ?_
  refine lv_goto (tgt := 89) C.hx C.hb dL_most_84 (by decide) ?_
  refine lv_icmp_eq (tgt := 94) C.hx C.hb dL_most_89 (by decide) (fun _ => ?_) (fun c9 => absurd c9 (by decide +kernel))
  exact kk g z H locs ls hs hP hD hS hl

set_option maxRecDepth 100000 in
set_option maxHeartbeats 4000000 in
theorem tr_most_10 {p : Program} {l : Launch} {e : Env} {s : State} {m : MethodId} {args : Array Value} {below : List Frame} {meth : Method} {c : Code} {D : va_G} {cA : ClassId} {A : Nat → Prop} {ad : Nat → Nat} {Q : State → Prop} (C : lcx p l s m c cL_most 2 D cA A) (kk : ∀ (g : Nat → Nat → Int32) (z : Nat → Nat) (H : Heap) (locs : List Loc) (ls : Array Slot), isL S73 g z → va_P D vwCl (rlW cA ad g z) H → va_D A (rlW cA ad g z) → va_S A s.heap H locs → lv_has ls 2 [(1, .int (nI 19)), (0, .ref (ad 70))] → W p l e rm_Lmost s m args below meth c H locs 103 1195 Q (F0 m 94 ls [])) : ∀ (g : Nat → Nat → Int32) (z : Nat → Nat) (H : Heap) (locs : List Loc) (ls : Array Slot), isL S70 g z → va_P D vwCl (rlW cA ad g z) H → va_D A (rlW cA ad g z) → va_S A s.heap H locs → lv_has ls 2 [(1, .int (nI 16)), (0, .ref (ad 70))] → W p l e rm_Lmost s m args below meth c H locs 100 1177 Q (F0 m 94 ls []) := by
  intro g z H locs ls hs hP hD hS hl
  refine lv_iinc (v := nI 17) (lv' := [(1, .int (nI 17)), (0, .ref (ad 70))]) C.hx C.hb dL_most_94 hl (k := 0) rfl (by decide +kernel) (by decide) rfl (fun ls hl => ?_)
  refine lv_goto (tgt := 53) C.hx C.hb dL_most_97 (by decide) ?_
  refine lv_iload_n C.hx C.hb dL_most_53 rfl (lv_at hl 0 rfl) ?_
  refine lv_bipush (v := nI 41) C.hx C.hb dL_most_54 (by decide +kernel) ?_
  refine lv_icmp_ge (tgt := 100) C.hx C.hb dL_most_56 (by decide) (fun c9 => absurd c9 (by decide +kernel)) (fun _ => ?_)
  refine lv_aload_n C.hx C.hb dL_most_59 rfl (lv_at hl 1 rfl) ?_
  refine lv_iconst (v := nI 3) C.hx C.hb dL_most_60 (by decide +kernel) ?_
  refine lv_iload_n C.hx C.hb dL_most_61 rfl (lv_at hl 0 rfl) ?_
  refine lv_bipush (v := nI 15) C.hx C.hb dL_most_62 (by decide +kernel) ?_
  refine lv_irem C.hx C.hb dL_most_64 (by decide +kernel) ?_
  refine q_top (y := nI 2) (by decide +kernel) ?_
  refine lv_iload_n C.hx C.hb dL_most_65 rfl (lv_at hl 0 rfl) ?_
  refine lv_bipush (v := nI 15) C.hx C.hb dL_most_66 (by decide +kernel) ?_
  refine lv_irem C.hx C.hb dL_most_68 (by decide +kernel) ?_
  refine q_top (y := nI 2) (by decide +kernel) ?_
  refine lv_iconst (v := nI 1) C.hx C.hb dL_most_69 (by decide +kernel) ?_
  refine lv_iadd C.hx C.hb dL_most_70 ?_
  refine q_top (y := nI 3) (by decide +kernel) ?_
  refine lv_bipush (v := -50) C.hx C.hb dL_most_71 (by decide +kernel) ?_
  refine lv_iconst (v := nI 0) C.hx C.hb dL_most_73 (by decide +kernel) ?_
  refine q_cA (L := S70) (L' := S71) (r := nI 0) (c2 := 101) (s2 := 1183) (As := [.int (nI 3), .int (nI 2), .int (nI 3), .int (-50), .int (nI 0)]) C hs hP hD hS (ca_ahead (nI 2) (nI 3) (-50) (nI 0) (nI 0) (cs_aheadC S71 2 3 (-50) 0 [] (by decide +kernel))) kl_L_102 hl rfl rfl (Nat.le_of_ble_eq_true rfl) ⟨Nat.le_of_ble_eq_true rfl, Nat.le_of_ble_eq_true rfl⟩ ⟨Nat.le_of_ble_eq_true rfl, Nat.le_of_ble_eq_true rfl⟩ ⟨Nat.le_of_ble_eq_true rfl, Nat.le_of_ble_eq_true rfl⟩ dL_most_74 (fun g z H locs hs hP hD hS => ?_)
  refine lv_iload_n C.hx C.hb dL_most_77 rfl (lv_at hl 0 rfl) ?_
  refine lv_bipush (v := nI 40) C.hx C.hb dL_most_78 (by decide +kernel) ?_
  refine lv_icmp_ge (tgt := 87) C.hx C.hb dL_most_80 (by decide) (fun c9 => absurd c9 (by decide +kernel)) (fun _ => ?_)
  refine lv_iconst (v := nI 0) C.hx C.hb dL_most_83 (by decide +kernel) ?_
  refine lv_goto (tgt := 89) C.hx C.hb dL_most_84 (by decide) ?_
  refine lv_icmp_eq (tgt := 94) C.hx C.hb dL_most_89 (by decide) (fun _ => ?_) (fun c9 => absurd c9 (by decide +kernel))
  refine lv_iinc (v := nI 18) (lv' := [(1, .int (nI 18)), (0, .ref (ad 70))]) C.hx C.hb dL_most_94 hl (k := 0) rfl (by decide +kernel) (by decide) rfl (fun ls hl => ?_)
  refine lv_goto (tgt := 53) C.hx C.hb dL_most_97 (by decide) ?_
  refine lv_iload_n C.hx C.hb dL_most_53 rfl (lv_at hl 0 rfl) ?_
  refine lv_bipush (v := nI 41) C.hx C.hb dL_most_54 (by decide +kernel) ?_
  refine lv_icmp_ge (tgt := 100) C.hx C.hb dL_most_56 (by decide) (fun c9 => absurd c9 (by decide +kernel)) (fun _ => ?_)
  refine lv_aload_n C.hx C.hb dL_most_59 rfl (lv_at hl 1 rfl) ?_
  refine lv_iconst (v := nI 3) C.hx C.hb dL_most_60 (by decide +kernel) ?_
  refine lv_iload_n C.hx C.hb dL_most_61 rfl (lv_at hl 0 rfl) ?_
  refine lv_bipush (v := nI 15) C.hx C.hb dL_most_62 (by decide +kernel) ?_
  refine lv_irem C.hx C.hb dL_most_64 (by decide +kernel) ?_
  refine q_top (y := nI 3) (by decide +kernel) ?_
  refine lv_iload_n C.hx C.hb dL_most_65 rfl (lv_at hl 0 rfl) ?_
  refine lv_bipush (v := nI 15) C.hx C.hb dL_most_66 (by decide +kernel) ?_
  refine lv_irem C.hx C.hb dL_most_68 (by decide +kernel) ?_
  refine q_top (y := nI 3) (by decide +kernel) ?_
  refine lv_iconst (v := nI 1) C.hx C.hb dL_most_69 (by decide +kernel) ?_
  refine lv_iadd C.hx C.hb dL_most_70 ?_
  refine q_top (y := nI 4) (by decide +kernel) ?_
  refine lv_bipush (v := -50) C.hx C.hb dL_most_71 (by decide +kernel) ?_
  refine lv_iconst (v := nI 0) C.hx C.hb dL_most_73 (by decide +kernel) ?_
  refine q_cA (L := S71) (L' := S72) (r := nI 0) (c2 := 102) (s2 := 1189) (As := [.int (nI 3), .int (nI 3), .int (nI 4), .int (-50), .int (nI 0)]) C hs hP hD hS (ca_ahead (nI 3) (nI 4) (-50) (nI 0) (nI 0) (cs_aheadC S72 3 4 (-50) 0 [] (by decide +kernel))) kl_L_102 hl rfl rfl (Nat.le_of_ble_eq_true rfl) ⟨Nat.le_of_ble_eq_true rfl, Nat.le_of_ble_eq_true rfl⟩ ⟨Nat.le_of_ble_eq_true rfl, Nat.le_of_ble_eq_true rfl⟩ ⟨Nat.le_of_ble_eq_true rfl, Nat.le_of_ble_eq_true rfl⟩ dL_most_74 (fun g z H locs hs hP hD hS => ?_)
  refine lv_iload_n C.hx C.hb dL_most_77 rfl (lv_at hl 0 rfl) ?_
  refine lv_bipush (v := nI 40) C.hx C.hb dL_most_78 (by decide +kernel) ?_
  refine lv_icmp_ge (tgt := 87) C.hx C.hb dL_most_80 (by decide) (fun c9 => absurd c9 (by decide +kernel)) (fun _ => ?_)
  refine lv_iconst (v := nI 0) C.hx C.hb dL_most_83 (by decide +kernel) ?_
  refine lv_goto (tgt := 89) C.hx C.hb dL_most_84 (by decide) ?_
  refine lv_icmp_eq (tgt := 94) C.hx C.hb dL_most_89 (by decide) (fun _ => ?_) (fun c9 => absurd c9 (by decide +kernel))
  refine lv_iinc (v := nI 19) (lv' := [(1, .int (nI 19)), (0, .ref (ad 70))]) C.hx C.hb dL_most_94 hl (k := 0) rfl (by decide +kernel) (by decide) rfl (fun ls hl => ?_)
  refine lv_goto (tgt := 53) C.hx C.hb dL_most_97 (by decide) ?_
  refine lv_iload_n C.hx C.hb dL_most_53 rfl (lv_at hl 0 rfl) ?_
  refine lv_bipush (v := nI 41) C.hx C.hb dL_most_54 (by decide +kernel) ?_
  refine lv_icmp_ge (tgt := 100) C.hx C.hb dL_most_56 (by decide) (fun c9 => absurd c9 (by decide +kernel)) (fun _ => ?_)
  refine lv_aload_n C.hx C.hb dL_most_59 rfl (lv_at hl 1 rfl) ?_
  refine lv_iconst (v := nI 3) C.hx C.hb dL_most_60 (by decide +kernel) ?_
  refine lv_iload_n C.hx C.hb dL_most_61 rfl (lv_at hl 0 rfl) ?_
  refine lv_bipush (v := nI 15) C.hx C.hb dL_most_62 (by decide +kernel) ?_
  refine lv_irem C.hx C.hb dL_most_64 (by decide +kernel) ?_
  refine q_top (y := nI 4) (by decide +kernel) ?_
  refine lv_iload_n C.hx C.hb dL_most_65 rfl (lv_at hl 0 rfl) ?_
  refine lv_bipush (v := nI 15) C.hx C.hb dL_most_66 (by decide +kernel) ?_
  refine lv_irem C.hx C.hb dL_most_68 (by decide +kernel) ?_
  refine q_top (y := nI 4) (by decide +kernel) ?_
  refine lv_iconst (v := nI 1) C.hx C.hb dL_most_69 (by decide +kernel) ?_
  refine lv_iadd C.hx C.hb dL_most_70 ?_
  refine q_top (y := nI 5) (by decide +kernel) ?_
  refine lv_bipush (v := -50) C.hx C.hb dL_most_71 (by decide +kernel) ?_
  refine lv_iconst (v := nI 0) C.hx C.hb dL_most_73 (by decide +kernel) ?_
  refine q_cA (L := S72) (L' := S73) (r := nI 0) (c2 := 103) (s2 := 1195) (As := [.int (nI 3), .int (nI 4), .int (nI 5), .int (-50), .int (nI 0)]) C hs hP hD hS (ca_ahead (nI 4) (nI 5) (-50) (nI 0) (nI 0) (cs_aheadC S73 4 5 (-50) 0 [] (by decide +kernel))) kl_L_102 hl rfl rfl (Nat.le_of_ble_eq_true rfl) ⟨Nat.le_of_ble_eq_true rfl, Nat.le_of_ble_eq_true rfl⟩ ⟨Nat.le_of_ble_eq_true rfl, Nat.le_of_ble_eq_true rfl⟩ ⟨Nat.le_of_ble_eq_true rfl, Nat.le_of_ble_eq_true rfl⟩ dL_most_74 (fun g z H locs hs hP hD hS => ?_)
  refine lv_iload_n C.hx C.hb dL_most_77 rfl (lv_at hl 0 rfl) ?_
  refine lv_bipush (v := nI 40) C.hx C.hb dL_most_78 (by decide +kernel) ?_
  refine lv_icmp_ge (tgt := 87) C.hx C.hb dL_most_80 (by decide) (fun c9 => absurd c9 (by decide +kernel)) (fun _ => ?_)
  refine lv_iconst (v := nI 0) C.hx C.hb dL_most_83 (by decide +kernel) ?_
  refine lv_goto (tgt := 89) C.hx C.hb dL_most_84 (by decide) ?_
  refine lv_icmp_eq (tgt := 94) C.hx C.hb dL_most_89 (by decide) (fun _ => ?_) (fun c9 => absurd c9 (by decide +kernel))
  exact kk g z H locs ls hs hP hD hS hl

set_option maxRecDepth 100000 in
set_option maxHeartbeats 4000000 in
theorem tr_most_11 {p : Program} {l : Launch} {e : Env} {s : State} {m : MethodId} {args : Array Value} {below : List Frame} {meth : Method} {c : Code} {D : va_G} {cA : ClassId} {A : Nat → Prop} {ad : Nat → Nat} {Q : State → Prop} (C : lcx p l s m c cL_most 2 D cA A) (kk : ∀ (g : Nat → Nat → Int32) (z : Nat → Nat) (H : Heap) (locs : List Loc) (ls : Array Slot), isL S76 g z → va_P D vwCl (rlW cA ad g z) H → va_D A (rlW cA ad g z) → va_S A s.heap H locs → lv_has ls 2 [(1, .int (nI 22)), (0, .ref (ad 70))] → W p l e rm_Lmost s m args below meth c H locs 106 1213 Q (F0 m 94 ls [])) : ∀ (g : Nat → Nat → Int32) (z : Nat → Nat) (H : Heap) (locs : List Loc) (ls : Array Slot), isL S73 g z → va_P D vwCl (rlW cA ad g z) H → va_D A (rlW cA ad g z) → va_S A s.heap H locs → lv_has ls 2 [(1, .int (nI 19)), (0, .ref (ad 70))] → W p l e rm_Lmost s m args below meth c H locs 103 1195 Q (F0 m 94 ls []) := by
  intro g z H locs ls hs hP hD hS hl
  refine lv_iinc (v := nI 20) (lv' := [(1, .int (nI 20)), (0, .ref (ad 70))]) C.hx C.hb dL_most_94 hl (k := 0) rfl (by decide +kernel) (by decide) rfl (fun ls hl => ?_)
  refine lv_goto (tgt := 53) C.hx C.hb dL_most_97 (by decide) ?_
  refine lv_iload_n C.hx C.hb dL_most_53 rfl (lv_at hl 0 rfl) ?_
  refine lv_bipush (v := nI 41) C.hx C.hb dL_most_54 (by decide +kernel) ?_
  refine lv_icmp_ge (tgt := 100) C.hx C.hb dL_most_56 (by decide) (fun c9 => absurd c9 (by decide +kernel)) (fun _ => ?_)
  refine lv_aload_n C.hx C.hb dL_most_59 rfl (lv_at hl 1 rfl) ?_
  refine lv_iconst (v := nI 3) C.hx C.hb dL_most_60 (by decide +kernel) ?_
  refine lv_iload_n C.hx C.hb dL_most_61 rfl (lv_at hl 0 rfl) ?_
  refine lv_bipush (v := nI 15) C.hx C.hb dL_most_62 (by decide +kernel) ?_
  refine lv_irem C.hx C.hb dL_most_64 (by decide +kernel) ?_
  refine q_top (y := nI 5) (by decide +kernel) ?_
  refine lv_iload_n C.hx C.hb dL_most_65 rfl (lv_at hl 0 rfl) ?_
  refine lv_bipush (v := nI 15) C.hx C.hb dL_most_66 (by decide +kernel) ?_
  refine lv_irem C.hx C.hb dL_most_68 (by decide +kernel) ?_
  refine q_top (y := nI 5) (by decide +kernel) ?_
  refine lv_iconst (v := nI 1) C.hx C.hb dL_most_69 (by decide +kernel) ?_
  refine lv_iadd C.hx C.hb dL_most_70 ?_
  refine q_top (y := nI 6) (by decide +kernel) ?_
  refine lv_bipush (v := -50) C.hx C.hb dL_most_71 (by decide +kernel) ?_
  refine lv_iconst (v := nI 0) C.hx C.hb dL_most_73 (by decide +kernel) ?_
  refine q_cA (L := S73) (L' := S74) (r := nI 0) (c2 := 104) (s2 := 1201) (As := [.int (nI 3), .int (nI 5), .int (nI 6), .int (-50), .int (nI 0)]) C hs hP hD hS (ca_ahead (nI 5) (nI 6) (-50) (nI 0) (nI 0) (cs_aheadC S74 5 6 (-50) 0 [] (by decide +kernel))) kl_L_102 hl rfl rfl (Nat.le_of_ble_eq_true rfl) ⟨Nat.le_of_ble_eq_true rfl, Nat.le_of_ble_eq_true rfl⟩ ⟨Nat.le_of_ble_eq_true rfl, Nat.le_of_ble_eq_true rfl⟩ ⟨Nat.le_of_ble_eq_true rfl, Nat.le_of_ble_eq_true rfl⟩ dL_most_74 (fun g z H locs hs hP hD hS => ?_)
  refine lv_iload_n C.hx C.hb dL_most_77 rfl (lv_at hl 0 rfl) ?_
  refine lv_bipush (v := nI 40) C.hx C.hb dL_most_78 (by decide +kernel) ?_
  refine lv_icmp_ge (tgt := 87) C.hx C.hb dL_most_80 (by decide) (fun c9 => absurd c9 (by decide +kernel)) (fun _ => ?_)
  refine lv_iconst (v := nI 0) C.hx C.hb dL_most_83 (by decide +kernel) ?_
  refine lv_goto (tgt := 89) C.hx C.hb dL_most_84 (by decide) ?_
  refine lv_icmp_eq (tgt := 94) C.hx C.hb dL_most_89 (by decide) (fun _ => ?_) (fun c9 => absurd c9 (by decide +kernel))
  refine lv_iinc (v := nI 21) (lv' := [(1, .int (nI 21)), (0, .ref (ad 70))]) C.hx C.hb dL_most_94 hl (k := 0) rfl (by decide +kernel) (by decide) rfl (fun ls hl => ?_)
  refine lv_goto (tgt := 53) C.hx C.hb dL_most_97 (by decide) ?_
  refine lv_iload_n C.hx C.hb dL_most_53 rfl (lv_at hl 0 rfl) ?_
  refine lv_bipush (v := nI 41) C.hx C.hb dL_most_54 (by decide +kernel) ?_
  refine lv_icmp_ge (tgt := 100) C.hx C.hb dL_most_56 (by decide) (fun c9 => absurd c9 (by decide +kernel)) (fun _ => ?_)
  refine lv_aload_n C.hx C.hb dL_most_59 rfl (lv_at hl 1 rfl) ?_
  refine lv_iconst (v := nI 3) C.hx C.hb dL_most_60 (by decide +kernel) ?_
  refine lv_iload_n C.hx C.hb dL_most_61 rfl (lv_at hl 0 rfl) ?_
  refine lv_bipush (v := nI 15) C.hx C.hb dL_most_62 (by decide +kernel) ?_
  refine lv_irem C.hx C.hb dL_most_64 (by decide +kernel) ?_
  refine q_top (y := nI 6) (by decide +kernel) ?_
  refine lv_iload_n C.hx C.hb dL_most_65 rfl (lv_at hl 0 rfl) ?_
  refine lv_bipush (v := nI 15) C.hx C.hb dL_most_66 (by decide +kernel) ?_
  refine lv_irem C.hx C.hb dL_most_68 (by decide +kernel) ?_
  refine q_top (y := nI 6) (by decide +kernel) ?_
  refine lv_iconst (v := nI 1) C.hx C.hb dL_most_69 (by decide +kernel) ?_
  refine lv_iadd C.hx C.hb dL_most_70 ?_
  refine q_top (y := nI 7) (by decide +kernel) ?_
  refine lv_bipush (v := -50) C.hx C.hb dL_most_71 (by decide +kernel) ?_
  refine lv_iconst (v := nI 0) C.hx C.hb dL_most_73 (by decide +kernel) ?_
  refine q_cA (L := S74) (L' := S75) (r := nI 0) (c2 := 105) (s2 := 1207) (As := [.int (nI 3), .int (nI 6), .int (nI 7), .int (-50), .int (nI 0)]) C hs hP hD hS (ca_ahead (nI 6) (nI 7) (-50) (nI 0) (nI 0) (cs_aheadC S75 6 7 (-50) 0 [] (by decide +kernel))) kl_L_102 hl rfl rfl (Nat.le_of_ble_eq_true rfl) ⟨Nat.le_of_ble_eq_true rfl, Nat.le_of_ble_eq_true rfl⟩ ⟨Nat.le_of_ble_eq_true rfl, Nat.le_of_ble_eq_true rfl⟩ ⟨Nat.le_of_ble_eq_true rfl, Nat.le_of_ble_eq_true rfl⟩ dL_most_74 (fun g z H locs hs hP hD hS => ?_)
  refine lv_iload_n C.hx C.hb dL_most_77 rfl (lv_at hl 0 rfl) ?_
  refine lv_bipush (v := nI 40) C.hx C.hb dL_most_78 (by decide +kernel) ?_
  refine lv_icmp_ge (tgt := 87) C.hx C.hb dL_most_80 (by decide) (fun c9 => absurd c9 (by decide +kernel)) (fun _ => ?_)
  refine lv_iconst (v := nI 0) C.hx C.hb dL_most_83 (by decide +kernel) ?_
  refine lv_goto (tgt := 89) C.hx C.hb dL_most_84 (by decide) ?_
  refine lv_icmp_eq (tgt := 94) C.hx C.hb dL_most_89 (by decide) (fun _ => ?_) (fun c9 => absurd c9 (by decide +kernel))
  refine lv_iinc (v := nI 22) (lv' := [(1, .int (nI 22)), (0, .ref (ad 70))]) C.hx C.hb dL_most_94 hl (k := 0) rfl (by decide +kernel) (by decide) rfl (fun ls hl => ?_)
  refine lv_goto (tgt := 53) C.hx C.hb dL_most_97 (by decide) ?_
  refine lv_iload_n C.hx C.hb dL_most_53 rfl (lv_at hl 0 rfl) ?_
  refine lv_bipush (v := nI 41) C.hx C.hb dL_most_54 (by decide +kernel) ?_
  refine lv_icmp_ge (tgt := 100) C.hx C.hb dL_most_56 (by decide) (fun c9 => absurd c9 (by decide +kernel)) (fun _ => ?_)
  refine lv_aload_n C.hx C.hb dL_most_59 rfl (lv_at hl 1 rfl) ?_
  refine lv_iconst (v := nI 3) C.hx C.hb dL_most_60 (by decide +kernel) ?_
  refine lv_iload_n C.hx C.hb dL_most_61 rfl (lv_at hl 0 rfl) ?_
  refine lv_bipush (v := nI 15) C.hx C.hb dL_most_62 (by decide +kernel) ?_
  refine lv_irem C.hx C.hb dL_most_64 (by decide +kernel) ?_
  refine q_top (y := nI 7) (by decide +kernel) ?_
  refine lv_iload_n C.hx C.hb dL_most_65 rfl (lv_at hl 0 rfl) ?_
  refine lv_bipush (v := nI 15) C.hx C.hb dL_most_66 (by decide +kernel) ?_
  refine lv_irem C.hx C.hb dL_most_68 (by decide +kernel) ?_
  refine q_top (y := nI 7) (by decide +kernel) ?_
  refine lv_iconst (v := nI 1) C.hx C.hb dL_most_69 (by decide +kernel) ?_
  refine lv_iadd C.hx C.hb dL_most_70 ?_
  refine q_top (y := nI 8) (by decide +kernel) ?_
  refine lv_bipush (v := -50) C.hx C.hb dL_most_71 (by decide +kernel) ?_
  refine lv_iconst (v := nI 0) C.hx C.hb dL_most_73 (by decide +kernel) ?_
  refine q_cA (L := S75) (L' := S76) (r := nI 0) (c2 := 106) (s2 := 1213) (As := [.int (nI 3), .int (nI 7), .int (nI 8), .int (-50), .int (nI 0)]) C hs hP hD hS (ca_ahead (nI 7) (nI 8) (-50) (nI 0) (nI 0) (cs_aheadC S76 7 8 (-50) 0 [] (by decide +kernel))) kl_L_102 hl rfl rfl (Nat.le_of_ble_eq_true rfl) ⟨Nat.le_of_ble_eq_true rfl, Nat.le_of_ble_eq_true rfl⟩ ⟨Nat.le_of_ble_eq_true rfl, Nat.le_of_ble_eq_true rfl⟩ ⟨Nat.le_of_ble_eq_true rfl, Nat.le_of_ble_eq_true rfl⟩ dL_most_74 (fun g z H locs hs hP hD hS => ?_)
  refine lv_iload_n C.hx C.hb dL_most_77 rfl (lv_at hl 0 rfl) ?_
  refine lv_bipush (v := nI 40) C.hx C.hb dL_most_78 (by decide +kernel) ?_
  refine lv_icmp_ge (tgt := 87) C.hx C.hb dL_most_80 (by decide) (fun c9 => absurd c9 (by decide +kernel)) (fun _ => ?_)
  refine lv_iconst (v := nI 0) C.hx C.hb dL_most_83 (by decide +kernel) ?_
  refine lv_goto (tgt := 89) C.hx C.hb dL_most_84 (by decide) ?_
  refine lv_icmp_eq (tgt := 94) C.hx C.hb dL_most_89 (by decide) (fun _ => ?_) (fun c9 => absurd c9 (by decide +kernel))
  exact kk g z H locs ls hs hP hD hS hl

set_option maxRecDepth 100000 in
set_option maxHeartbeats 4000000 in
theorem tr_most_12 {p : Program} {l : Launch} {e : Env} {s : State} {m : MethodId} {args : Array Value} {below : List Frame} {meth : Method} {c : Code} {D : va_G} {cA : ClassId} {A : Nat → Prop} {ad : Nat → Nat} {Q : State → Prop} (C : lcx p l s m c cL_most 2 D cA A) (kk : ∀ (g : Nat → Nat → Int32) (z : Nat → Nat) (H : Heap) (locs : List Loc) (ls : Array Slot), isL S79 g z → va_P D vwCl (rlW cA ad g z) H → va_D A (rlW cA ad g z) → va_S A s.heap H locs → lv_has ls 2 [(1, .int (nI 25)), (0, .ref (ad 70))] → W p l e rm_Lmost s m args below meth c H locs 109 1231 Q (F0 m 94 ls [])) : ∀ (g : Nat → Nat → Int32) (z : Nat → Nat) (H : Heap) (locs : List Loc) (ls : Array Slot), isL S76 g z → va_P D vwCl (rlW cA ad g z) H → va_D A (rlW cA ad g z) → va_S A s.heap H locs → lv_has ls 2 [(1, .int (nI 22)), (0, .ref (ad 70))] → W p l e rm_Lmost s m args below meth c H locs 106 1213 Q (F0 m 94 ls []) := by
  intro g z H locs ls hs hP hD hS hl
  refine lv_iinc (v := nI 23) (lv' := [(1, .int (nI 23)), (0, .ref (ad 70))]) C.hx C.hb dL_most_94 hl (k := 0) rfl (by decide +kernel) (by decide) rfl (fun ls hl => ?_)
  refine lv_goto (tgt := 53) C.hx C.hb dL_most_97 (by decide) ?_
  refine lv_iload_n C.hx C.hb dL_most_53 rfl (lv_at hl 0 rfl) ?_
  refine lv_bipush (v := nI 41) C.hx C.hb dL_most_54 (by decide +kernel) ?_
  refine lv_icmp_ge (tgt := 100) C.hx C.hb dL_most_56 (by decide) (fun c9 => absurd c9 (by decide +kernel)) (fun _ => ?_)
  refine lv_aload_n C.hx C.hb dL_most_59 rfl (lv_at hl 1 rfl) ?_
  refine lv_iconst (v := nI 3) C.hx C.hb dL_most_60 (by decide +kernel) ?_
  refine lv_iload_n C.hx C.hb dL_most_61 rfl (lv_at hl 0 rfl) ?_
  refine lv_bipush (v := nI 15) C.hx C.hb dL_most_62 (by decide +kernel) ?_
  refine lv_irem C.hx C.hb dL_most_64 (by decide +kernel) ?_
  refine q_top (y := nI 8) (by decide +kernel) ?_
  refine lv_iload_n C.hx C.hb dL_most_65 rfl (lv_at hl 0 rfl) ?_
  refine lv_bipush (v := nI 15) C.hx C.hb dL_most_66 (by decide +kernel) ?_
  refine lv_irem C.hx C.hb dL_most_68 (by decide +kernel) ?_
  refine q_top (y := nI 8) (by decide +kernel) ?_
  refine lv_iconst (v := nI 1) C.hx C.hb dL_most_69 (by decide +kernel) ?_
  refine lv_iadd C.hx C.hb dL_most_70 ?_
  refine q_top (y := nI 9) (by decide +kernel) ?_
  refine lv_bipush (v := -50) C.hx C.hb dL_most_71 (by decide +kernel) ?_
  refine lv_iconst (v := nI 0) C.hx C.hb dL_most_73 (by decide +kernel) ?_
  refine q_cA (L := S76) (L' := S77) (r := nI 0) (c2 := 107) (s2 := 1219) (As := [.int (nI 3), .int (nI 8), .int (nI 9), .int (-50), .int (nI 0)]) C hs hP hD hS (ca_ahead (nI 8) (nI 9) (-50) (nI 0) (nI 0) (cs_aheadC S77 8 9 (-50) 0 [] (by decide +kernel))) kl_L_102 hl rfl rfl (Nat.le_of_ble_eq_true rfl) ⟨Nat.le_of_ble_eq_true rfl, Nat.le_of_ble_eq_true rfl⟩ ⟨Nat.le_of_ble_eq_true rfl, Nat.le_of_ble_eq_true rfl⟩ ⟨Nat.le_of_ble_eq_true rfl, Nat.le_of_ble_eq_true rfl⟩ dL_most_74 (fun g z H locs hs hP hD hS => ?_)
  refine lv_iload_n C.hx C.hb dL_most_77 rfl (lv_at hl 0 rfl) ?_
  refine lv_bipush (v := nI 40) C.hx C.hb dL_most_78 (by decide +kernel) ?_
  refine lv_icmp_ge (tgt := 87) C.hx C.hb dL_most_80 (by decide) (fun c9 => absurd c9 (by decide +kernel)) (fun _ => ?_)
  refine lv_iconst (v := nI 0) C.hx C.hb dL_most_83 (by decide +kernel) ?_
  refine lv_goto (tgt := 89) C.hx C.hb dL_most_84 (by decide) ?_
  refine lv_icmp_eq (tgt := 94) C.hx C.hb dL_most_89 (by decide) (fun _ => ?_) (fun c9 => absurd c9 (by decide +kernel))
  refine lv_iinc (v := nI 24) (lv' := [(1, .int (nI 24)), (0, .ref (ad 70))]) C.hx C.hb dL_most_94 hl (k := 0) rfl (by decide +kernel) (by decide) rfl (fun ls hl => ?_)
  refine lv_goto (tgt := 53) C.hx C.hb dL_most_97 (by decide) ?_
  refine lv_iload_n C.hx C.hb dL_most_53 rfl (lv_at hl 0 rfl) ?_
  refine lv_bipush (v := nI 41) C.hx C.hb dL_most_54 (by decide +kernel) ?_
  refine lv_icmp_ge (tgt := 100) C.hx C.hb dL_most_56 (by decide) (fun c9 => absurd c9 (by decide +kernel)) (fun _ => ?_)
  refine lv_aload_n C.hx C.hb dL_most_59 rfl (lv_at hl 1 rfl) ?_
  refine lv_iconst (v := nI 3) C.hx C.hb dL_most_60 (by decide +kernel) ?_
  refine lv_iload_n C.hx C.hb dL_most_61 rfl (lv_at hl 0 rfl) ?_
  refine lv_bipush (v := nI 15) C.hx C.hb dL_most_62 (by decide +kernel) ?_
  refine lv_irem C.hx C.hb dL_most_64 (by decide +kernel) ?_
  refine q_top (y := nI 9) (by decide +kernel) ?_
  refine lv_iload_n C.hx C.hb dL_most_65 rfl (lv_at hl 0 rfl) ?_
  refine lv_bipush (v := nI 15) C.hx C.hb dL_most_66 (by decide +kernel) ?_
  refine lv_irem C.hx C.hb dL_most_68 (by decide +kernel) ?_
  refine q_top (y := nI 9) (by decide +kernel) ?_
  refine lv_iconst (v := nI 1) C.hx C.hb dL_most_69 (by decide +kernel) ?_
  refine lv_iadd C.hx C.hb dL_most_70 ?_
  refine q_top (y := nI 10) (by decide +kernel) ?_
  refine lv_bipush (v := -50) C.hx C.hb dL_most_71 (by decide +kernel) ?_
  refine lv_iconst (v := nI 0) C.hx C.hb dL_most_73 (by decide +kernel) ?_
  refine q_cA (L := S77) (L' := S78) (r := nI 0) (c2 := 108) (s2 := 1225) (As := [.int (nI 3), .int (nI 9), .int (nI 10), .int (-50), .int (nI 0)]) C hs hP hD hS (ca_ahead (nI 9) (nI 10) (-50) (nI 0) (nI 0) (cs_aheadC S78 9 10 (-50) 0 [] (by decide +kernel))) kl_L_102 hl rfl rfl (Nat.le_of_ble_eq_true rfl) ⟨Nat.le_of_ble_eq_true rfl, Nat.le_of_ble_eq_true rfl⟩ ⟨Nat.le_of_ble_eq_true rfl, Nat.le_of_ble_eq_true rfl⟩ ⟨Nat.le_of_ble_eq_true rfl, Nat.le_of_ble_eq_true rfl⟩ dL_most_74 (fun g z H locs hs hP hD hS => ?_)
  refine lv_iload_n C.hx C.hb dL_most_77 rfl (lv_at hl 0 rfl) ?_
  refine lv_bipush (v := nI 40) C.hx C.hb dL_most_78 (by decide +kernel) ?_
  refine lv_icmp_ge (tgt := 87) C.hx C.hb dL_most_80 (by decide) (fun c9 => absurd c9 (by decide +kernel)) (fun _ => ?_)
  refine lv_iconst (v := nI 0) C.hx C.hb dL_most_83 (by decide +kernel) ?_
  refine lv_goto (tgt := 89) C.hx C.hb dL_most_84 (by decide) ?_
  refine lv_icmp_eq (tgt := 94) C.hx C.hb dL_most_89 (by decide) (fun _ => ?_) (fun c9 => absurd c9 (by decide +kernel))
  refine lv_iinc (v := nI 25) (lv' := [(1, .int (nI 25)), (0, .ref (ad 70))]) C.hx C.hb dL_most_94 hl (k := 0) rfl (by decide +kernel) (by decide) rfl (fun ls hl => ?_)
  refine lv_goto (tgt := 53) C.hx C.hb dL_most_97 (by decide) ?_
  refine lv_iload_n C.hx C.hb dL_most_53 rfl (lv_at hl 0 rfl) ?_
  refine lv_bipush (v := nI 41) C.hx C.hb dL_most_54 (by decide +kernel) ?_
  refine lv_icmp_ge (tgt := 100) C.hx C.hb dL_most_56 (by decide) (fun c9 => absurd c9 (by decide +kernel)) (fun _ => ?_)
  refine lv_aload_n C.hx C.hb dL_most_59 rfl (lv_at hl 1 rfl) ?_
  refine lv_iconst (v := nI 3) C.hx C.hb dL_most_60 (by decide +kernel) ?_
  refine lv_iload_n C.hx C.hb dL_most_61 rfl (lv_at hl 0 rfl) ?_
  refine lv_bipush (v := nI 15) C.hx C.hb dL_most_62 (by decide +kernel) ?_
  refine lv_irem C.hx C.hb dL_most_64 (by decide +kernel) ?_
  refine q_top (y := nI 10) (by decide +kernel) ?_
  refine lv_iload_n C.hx C.hb dL_most_65 rfl (lv_at hl 0 rfl) ?_
  refine lv_bipush (v := nI 15) C.hx C.hb dL_most_66 (by decide +kernel) ?_
  refine lv_irem C.hx C.hb dL_most_68 (by decide +kernel) ?_
  refine q_top (y := nI 10) (by decide +kernel) ?_
  refine lv_iconst (v := nI 1) C.hx C.hb dL_most_69 (by decide +kernel) ?_
  refine lv_iadd C.hx C.hb dL_most_70 ?_
  refine q_top (y := nI 11) (by decide +kernel) ?_
  refine lv_bipush (v := -50) C.hx C.hb dL_most_71 (by decide +kernel) ?_
  refine lv_iconst (v := nI 0) C.hx C.hb dL_most_73 (by decide +kernel) ?_
  refine q_cA (L := S78) (L' := S79) (r := nI 0) (c2 := 109) (s2 := 1231) (As := [.int (nI 3), .int (nI 10), .int (nI 11), .int (-50), .int (nI 0)]) C hs hP hD hS (ca_ahead (nI 10) (nI 11) (-50) (nI 0) (nI 0) (cs_aheadC S79 10 11 (-50) 0 [] (by decide +kernel))) kl_L_102 hl rfl rfl (Nat.le_of_ble_eq_true rfl) ⟨Nat.le_of_ble_eq_true rfl, Nat.le_of_ble_eq_true rfl⟩ ⟨Nat.le_of_ble_eq_true rfl, Nat.le_of_ble_eq_true rfl⟩ ⟨Nat.le_of_ble_eq_true rfl, Nat.le_of_ble_eq_true rfl⟩ dL_most_74 (fun g z H locs hs hP hD hS => ?_)
  refine lv_iload_n C.hx C.hb dL_most_77 rfl (lv_at hl 0 rfl) ?_
  refine lv_bipush (v := nI 40) C.hx C.hb dL_most_78 (by decide +kernel) ?_
  refine lv_icmp_ge (tgt := 87) C.hx C.hb dL_most_80 (by decide) (fun c9 => absurd c9 (by decide +kernel)) (fun _ => ?_)
  refine lv_iconst (v := nI 0) C.hx C.hb dL_most_83 (by decide +kernel) ?_
  refine lv_goto (tgt := 89) C.hx C.hb dL_most_84 (by decide) ?_
  refine lv_icmp_eq (tgt := 94) C.hx C.hb dL_most_89 (by decide) (fun _ => ?_) (fun c9 => absurd c9 (by decide +kernel))
  exact kk g z H locs ls hs hP hD hS hl

set_option maxRecDepth 100000 in
set_option maxHeartbeats 4000000 in
theorem tr_most_13 {p : Program} {l : Launch} {e : Env} {s : State} {m : MethodId} {args : Array Value} {below : List Frame} {meth : Method} {c : Code} {D : va_G} {cA : ClassId} {A : Nat → Prop} {ad : Nat → Nat} {Q : State → Prop} (C : lcx p l s m c cL_most 2 D cA A) (kk : ∀ (g : Nat → Nat → Int32) (z : Nat → Nat) (H : Heap) (locs : List Loc) (ls : Array Slot), isL S82 g z → va_P D vwCl (rlW cA ad g z) H → va_D A (rlW cA ad g z) → va_S A s.heap H locs → lv_has ls 2 [(1, .int (nI 28)), (0, .ref (ad 70))] → W p l e rm_Lmost s m args below meth c H locs 112 1249 Q (F0 m 94 ls [])) : ∀ (g : Nat → Nat → Int32) (z : Nat → Nat) (H : Heap) (locs : List Loc) (ls : Array Slot), isL S79 g z → va_P D vwCl (rlW cA ad g z) H → va_D A (rlW cA ad g z) → va_S A s.heap H locs → lv_has ls 2 [(1, .int (nI 25)), (0, .ref (ad 70))] → W p l e rm_Lmost s m args below meth c H locs 109 1231 Q (F0 m 94 ls []) := by
  intro g z H locs ls hs hP hD hS hl
  refine lv_iinc (v := nI 26) (lv' := [(1, .int (nI 26)), (0, .ref (ad 70))]) C.hx C.hb dL_most_94 hl (k := 0) rfl (by decide +kernel) (by decide) rfl (fun ls hl => ?_)
  refine lv_goto (tgt := 53) C.hx C.hb dL_most_97 (by decide) ?_
  refine lv_iload_n C.hx C.hb dL_most_53 rfl (lv_at hl 0 rfl) ?_
  refine lv_bipush (v := nI 41) C.hx C.hb dL_most_54 (by decide +kernel) ?_
  refine lv_icmp_ge (tgt := 100) C.hx C.hb dL_most_56 (by decide) (fun c9 => absurd c9 (by decide +kernel)) (fun _ => ?_)
  refine lv_aload_n C.hx C.hb dL_most_59 rfl (lv_at hl 1 rfl) ?_
  refine lv_iconst (v := nI 3) C.hx C.hb dL_most_60 (by decide +kernel) ?_
  refine lv_iload_n C.hx C.hb dL_most_61 rfl (lv_at hl 0 rfl) ?_
  refine lv_bipush (v := nI 15) C.hx C.hb dL_most_62 (by decide +kernel) ?_
  refine lv_irem C.hx C.hb dL_most_64 (by decide +kernel) ?_
  refine q_top (y := nI 11) (by decide +kernel) ?_
  refine lv_iload_n C.hx C.hb dL_most_65 rfl (lv_at hl 0 rfl) ?_
  refine lv_bipush (v := nI 15) C.hx C.hb dL_most_66 (by decide +kernel) ?_
  refine lv_irem C.hx C.hb dL_most_68 (by decide +kernel) ?_
  refine q_top (y := nI 11) (by decide +kernel) ?_
  refine lv_iconst (v := nI 1) C.hx C.hb dL_most_69 (by decide +kernel) ?_
  refine lv_iadd C.hx C.hb dL_most_70 ?_
  refine q_top (y := nI 12) (by decide +kernel) ?_
  refine lv_bipush (v := -50) C.hx C.hb dL_most_71 (by decide +kernel) ?_
  refine lv_iconst (v := nI 0) C.hx C.hb dL_most_73 (by decide +kernel) ?_
  refine q_cA (L := S79) (L' := S80) (r := nI 0) (c2 := 110) (s2 := 1237) (As := [.int (nI 3), .int (nI 11), .int (nI 12), .int (-50), .int (nI 0)]) C hs hP hD hS (ca_ahead (nI 11) (nI 12) (-50) (nI 0) (nI 0) (cs_aheadC S80 11 12 (-50) 0 [] (by decide +kernel))) kl_L_102 hl rfl rfl (Nat.le_of_ble_eq_true rfl) ⟨Nat.le_of_ble_eq_true rfl, Nat.le_of_ble_eq_true rfl⟩ ⟨Nat.le_of_ble_eq_true rfl, Nat.le_of_ble_eq_true rfl⟩ ⟨Nat.le_of_ble_eq_true rfl, Nat.le_of_ble_eq_true rfl⟩ dL_most_74 (fun g z H locs hs hP hD hS => ?_)
  refine lv_iload_n C.hx C.hb dL_most_77 rfl (lv_at hl 0 rfl) ?_
  refine lv_bipush (v := nI 40) C.hx C.hb dL_most_78 (by decide +kernel) ?_
  refine lv_icmp_ge (tgt := 87) C.hx C.hb dL_most_80 (by decide) (fun c9 => absurd c9 (by decide +kernel)) (fun _ => ?_)
  refine lv_iconst (v := nI 0) C.hx C.hb dL_most_83 (by decide +kernel) ?_
  refine lv_goto (tgt := 89) C.hx C.hb dL_most_84 (by decide) ?_
  refine lv_icmp_eq (tgt := 94) C.hx C.hb dL_most_89 (by decide) (fun _ => ?_) (fun c9 => absurd c9 (by decide +kernel))
  refine lv_iinc (v := nI 27) (lv' := [(1, .int (nI 27)), (0, .ref (ad 70))]) C.hx C.hb dL_most_94 hl (k := 0) rfl (by decide +kernel) (by decide) rfl (fun ls hl => ?_)
  refine lv_goto (tgt := 53) C.hx C.hb dL_most_97 (by decide) ?_
  refine lv_iload_n C.hx C.hb dL_most_53 rfl (lv_at hl 0 rfl) ?_
  refine lv_bipush (v := nI 41) C.hx C.hb dL_most_54 (by decide +kernel) ?_
  refine lv_icmp_ge (tgt := 100) C.hx C.hb dL_most_56 (by decide) (fun c9 => absurd c9 (by decide +kernel)) (fun _ => ?_)
  refine lv_aload_n C.hx C.hb dL_most_59 rfl (lv_at hl 1 rfl) ?_
  refine lv_iconst (v := nI 3) C.hx C.hb dL_most_60 (by decide +kernel) ?_
  refine lv_iload_n C.hx C.hb dL_most_61 rfl (lv_at hl 0 rfl) ?_
  refine lv_bipush (v := nI 15) C.hx C.hb dL_most_62 (by decide +kernel) ?_
  refine lv_irem C.hx C.hb dL_most_64 (by decide +kernel) ?_
  refine q_top (y := nI 12) (by decide +kernel) ?_
  refine lv_iload_n C.hx C.hb dL_most_65 rfl (lv_at hl 0 rfl) ?_
  refine lv_bipush (v := nI 15) C.hx C.hb dL_most_66 (by decide +kernel) ?_
  refine lv_irem C.hx C.hb dL_most_68 (by decide +kernel) ?_
  refine q_top (y := nI 12) (by decide +kernel) ?_
  refine lv_iconst (v := nI 1) C.hx C.hb dL_most_69 (by decide +kernel) ?_
  refine lv_iadd C.hx C.hb dL_most_70 ?_
  refine q_top (y := nI 13) (by decide +kernel) ?_
  refine lv_bipush (v := -50) C.hx C.hb dL_most_71 (by decide +kernel) ?_
  refine lv_iconst (v := nI 0) C.hx C.hb dL_most_73 (by decide +kernel) ?_
  refine q_cA (L := S80) (L' := S81) (r := nI 0) (c2 := 111) (s2 := 1243) (As := [.int (nI 3), .int (nI 12), .int (nI 13), .int (-50), .int (nI 0)]) C hs hP hD hS (ca_ahead (nI 12) (nI 13) (-50) (nI 0) (nI 0) (cs_aheadC S81 12 13 (-50) 0 [] (by decide +kernel))) kl_L_102 hl rfl rfl (Nat.le_of_ble_eq_true rfl) ⟨Nat.le_of_ble_eq_true rfl, Nat.le_of_ble_eq_true rfl⟩ ⟨Nat.le_of_ble_eq_true rfl, Nat.le_of_ble_eq_true rfl⟩ ⟨Nat.le_of_ble_eq_true rfl, Nat.le_of_ble_eq_true rfl⟩ dL_most_74 (fun g z H locs hs hP hD hS => ?_)
  refine lv_iload_n C.hx C.hb dL_most_77 rfl (lv_at hl 0 rfl) ?_
  refine lv_bipush (v := nI 40) C.hx C.hb dL_most_78 (by decide +kernel) ?_
  refine lv_icmp_ge (tgt := 87) C.hx C.hb dL_most_80 (by decide) (fun c9 => absurd c9 (by decide +kernel)) (fun _ => ?_)
  refine lv_iconst (v := nI 0) C.hx C.hb dL_most_83 (by decide +kernel) ?_
  refine lv_goto (tgt := 89) C.hx C.hb dL_most_84 (by decide) ?_
  refine lv_icmp_eq (tgt := 94) C.hx C.hb dL_most_89 (by decide) (fun _ => ?_) (fun c9 => absurd c9 (by decide +kernel))
  refine lv_iinc (v := nI 28) (lv' := [(1, .int (nI 28)), (0, .ref (ad 70))]) C.hx C.hb dL_most_94 hl (k := 0) rfl (by decide +kernel) (by decide) rfl (fun ls hl => ?_)
  refine lv_goto (tgt := 53) C.hx C.hb dL_most_97 (by decide) ?_
  refine lv_iload_n C.hx C.hb dL_most_53 rfl (lv_at hl 0 rfl) ?_
  refine lv_bipush (v := nI 41) C.hx C.hb dL_most_54 (by decide +kernel) ?_
  refine lv_icmp_ge (tgt := 100) C.hx C.hb dL_most_56 (by decide) (fun c9 => absurd c9 (by decide +kernel)) (fun _ => ?_)
  refine lv_aload_n C.hx C.hb dL_most_59 rfl (lv_at hl 1 rfl) ?_
  refine lv_iconst (v := nI 3) C.hx C.hb dL_most_60 (by decide +kernel) ?_
  refine lv_iload_n C.hx C.hb dL_most_61 rfl (lv_at hl 0 rfl) ?_
  refine lv_bipush (v := nI 15) C.hx C.hb dL_most_62 (by decide +kernel) ?_
  refine lv_irem C.hx C.hb dL_most_64 (by decide +kernel) ?_
  refine q_top (y := nI 13) (by decide +kernel) ?_
  refine lv_iload_n C.hx C.hb dL_most_65 rfl (lv_at hl 0 rfl) ?_
  refine lv_bipush (v := nI 15) C.hx C.hb dL_most_66 (by decide +kernel) ?_
  refine lv_irem C.hx C.hb dL_most_68 (by decide +kernel) ?_
  refine q_top (y := nI 13) (by decide +kernel) ?_
  refine lv_iconst (v := nI 1) C.hx C.hb dL_most_69 (by decide +kernel) ?_
  refine lv_iadd C.hx C.hb dL_most_70 ?_
  refine q_top (y := nI 14) (by decide +kernel) ?_
  refine lv_bipush (v := -50) C.hx C.hb dL_most_71 (by decide +kernel) ?_
  refine lv_iconst (v := nI 0) C.hx C.hb dL_most_73 (by decide +kernel) ?_
  refine q_cA (L := S81) (L' := S82) (r := nI 0) (c2 := 112) (s2 := 1249) (As := [.int (nI 3), .int (nI 13), .int (nI 14), .int (-50), .int (nI 0)]) C hs hP hD hS (ca_ahead (nI 13) (nI 14) (-50) (nI 0) (nI 0) (cs_aheadC S82 13 14 (-50) 0 [] (by decide +kernel))) kl_L_102 hl rfl rfl (Nat.le_of_ble_eq_true rfl) ⟨Nat.le_of_ble_eq_true rfl, Nat.le_of_ble_eq_true rfl⟩ ⟨Nat.le_of_ble_eq_true rfl, Nat.le_of_ble_eq_true rfl⟩ ⟨Nat.le_of_ble_eq_true rfl, Nat.le_of_ble_eq_true rfl⟩ dL_most_74 (fun g z H locs hs hP hD hS => ?_)
  refine lv_iload_n C.hx C.hb dL_most_77 rfl (lv_at hl 0 rfl) ?_
  refine lv_bipush (v := nI 40) C.hx C.hb dL_most_78 (by decide +kernel) ?_
  refine lv_icmp_ge (tgt := 87) C.hx C.hb dL_most_80 (by decide) (fun c9 => absurd c9 (by decide +kernel)) (fun _ => ?_)
  refine lv_iconst (v := nI 0) C.hx C.hb dL_most_83 (by decide +kernel) ?_
  refine lv_goto (tgt := 89) C.hx C.hb dL_most_84 (by decide) ?_
  refine lv_icmp_eq (tgt := 94) C.hx C.hb dL_most_89 (by decide) (fun _ => ?_) (fun c9 => absurd c9 (by decide +kernel))
  exact kk g z H locs ls hs hP hD hS hl

set_option maxRecDepth 100000 in
set_option maxHeartbeats 4000000 in
theorem tr_most_14 {p : Program} {l : Launch} {e : Env} {s : State} {m : MethodId} {args : Array Value} {below : List Frame} {meth : Method} {c : Code} {D : va_G} {cA : ClassId} {A : Nat → Prop} {ad : Nat → Nat} {Q : State → Prop} (C : lcx p l s m c cL_most 2 D cA A) (kk : ∀ (g : Nat → Nat → Int32) (z : Nat → Nat) (H : Heap) (locs : List Loc) (ls : Array Slot), isL S85 g z → va_P D vwCl (rlW cA ad g z) H → va_D A (rlW cA ad g z) → va_S A s.heap H locs → lv_has ls 2 [(1, .int (nI 31)), (0, .ref (ad 70))] → W p l e rm_Lmost s m args below meth c H locs 115 1267 Q (F0 m 94 ls [])) : ∀ (g : Nat → Nat → Int32) (z : Nat → Nat) (H : Heap) (locs : List Loc) (ls : Array Slot), isL S82 g z → va_P D vwCl (rlW cA ad g z) H → va_D A (rlW cA ad g z) → va_S A s.heap H locs → lv_has ls 2 [(1, .int (nI 28)), (0, .ref (ad 70))] → W p l e rm_Lmost s m args below meth c H locs 112 1249 Q (F0 m 94 ls []) := by
  intro g z H locs ls hs hP hD hS hl
  refine lv_iinc (v := nI 29) (lv' := [(1, .int (nI 29)), (0, .ref (ad 70))]) C.hx C.hb dL_most_94 hl (k := 0) rfl (by decide +kernel) (by decide) rfl (fun ls hl => ?_)
  refine lv_goto (tgt := 53) C.hx C.hb dL_most_97 (by decide) ?_
  refine lv_iload_n C.hx C.hb dL_most_53 rfl (lv_at hl 0 rfl) ?_
  refine lv_bipush (v := nI 41) C.hx C.hb dL_most_54 (by decide +kernel) ?_
  refine lv_icmp_ge (tgt := 100) C.hx C.hb dL_most_56 (by decide) (fun c9 => absurd c9 (by decide +kernel)) (fun _ => ?_)
  refine lv_aload_n C.hx C.hb dL_most_59 rfl (lv_at hl 1 rfl) ?_
  refine lv_iconst (v := nI 3) C.hx C.hb dL_most_60 (by decide +kernel) ?_
  refine lv_iload_n C.hx C.hb dL_most_61 rfl (lv_at hl 0 rfl) ?_
  refine lv_bipush (v := nI 15) C.hx C.hb dL_most_62 (by decide +kernel) ?_
  refine lv_irem C.hx C.hb dL_most_64 (by decide +kernel) ?_
  refine q_top (y := nI 14) (by decide +kernel) ?_
  refine lv_iload_n C.hx C.hb dL_most_65 rfl (lv_at hl 0 rfl) ?_
  refine lv_bipush (v := nI 15) C.hx C.hb dL_most_66 (by decide +kernel) ?_
  refine lv_irem C.hx C.hb dL_most_68 (by decide +kernel) ?_
  refine q_top (y := nI 14) (by decide +kernel) ?_
  refine lv_iconst (v := nI 1) C.hx C.hb dL_most_69 (by decide +kernel) ?_
  refine lv_iadd C.hx C.hb dL_most_70 ?_
  refine q_top (y := nI 15) (by decide +kernel) ?_
  refine lv_bipush (v := -50) C.hx C.hb dL_most_71 (by decide +kernel) ?_
  refine lv_iconst (v := nI 0) C.hx C.hb dL_most_73 (by decide +kernel) ?_
  refine q_cA (L := S82) (L' := S83) (r := nI 0) (c2 := 113) (s2 := 1255) (As := [.int (nI 3), .int (nI 14), .int (nI 15), .int (-50), .int (nI 0)]) C hs hP hD hS (ca_ahead (nI 14) (nI 15) (-50) (nI 0) (nI 0) (cs_aheadC S83 14 15 (-50) 0 [] (by decide +kernel))) kl_L_102 hl rfl rfl (Nat.le_of_ble_eq_true rfl) ⟨Nat.le_of_ble_eq_true rfl, Nat.le_of_ble_eq_true rfl⟩ ⟨Nat.le_of_ble_eq_true rfl, Nat.le_of_ble_eq_true rfl⟩ ⟨Nat.le_of_ble_eq_true rfl, Nat.le_of_ble_eq_true rfl⟩ dL_most_74 (fun g z H locs hs hP hD hS => ?_)
  refine lv_iload_n C.hx C.hb dL_most_77 rfl (lv_at hl 0 rfl) ?_
  refine lv_bipush (v := nI 40) C.hx C.hb dL_most_78 (by decide +kernel) ?_
  refine lv_icmp_ge (tgt := 87) C.hx C.hb dL_most_80 (by decide) (fun c9 => absurd c9 (by decide +kernel)) (fun _ => ?_)
  refine lv_iconst (v := nI 0) C.hx C.hb dL_most_83 (by decide +kernel) ?_
  refine lv_goto (tgt := 89) C.hx C.hb dL_most_84 (by decide) ?_
  refine lv_icmp_eq (tgt := 94) C.hx C.hb dL_most_89 (by decide) (fun _ => ?_) (fun c9 => absurd c9 (by decide +kernel))
  refine lv_iinc (v := nI 30) (lv' := [(1, .int (nI 30)), (0, .ref (ad 70))]) C.hx C.hb dL_most_94 hl (k := 0) rfl (by decide +kernel) (by decide) rfl (fun ls hl => ?_)
  refine lv_goto (tgt := 53) C.hx C.hb dL_most_97 (by decide) ?_
  refine lv_iload_n C.hx C.hb dL_most_53 rfl (lv_at hl 0 rfl) ?_
  refine lv_bipush (v := nI 41) C.hx C.hb dL_most_54 (by decide +kernel) ?_
  refine lv_icmp_ge (tgt := 100) C.hx C.hb dL_most_56 (by decide) (fun c9 => absurd c9 (by decide +kernel)) (fun _ => ?_)
  refine lv_aload_n C.hx C.hb dL_most_59 rfl (lv_at hl 1 rfl) ?_
  refine lv_iconst (v := nI 3) C.hx C.hb dL_most_60 (by decide +kernel) ?_
  refine lv_iload_n C.hx C.hb dL_most_61 rfl (lv_at hl 0 rfl) ?_
  refine lv_bipush (v := nI 15) C.hx C.hb dL_most_62 (by decide +kernel) ?_
  refine lv_irem C.hx C.hb dL_most_64 (by decide +kernel) ?_
  refine q_top (y := nI 0) (by decide +kernel) ?_
  refine lv_iload_n C.hx C.hb dL_most_65 rfl (lv_at hl 0 rfl) ?_
  refine lv_bipush (v := nI 15) C.hx C.hb dL_most_66 (by decide +kernel) ?_
  refine lv_irem C.hx C.hb dL_most_68 (by decide +kernel) ?_
  refine q_top (y := nI 0) (by decide +kernel) ?_
  refine lv_iconst (v := nI 1) C.hx C.hb dL_most_69 (by decide +kernel) ?_
  refine lv_iadd C.hx C.hb dL_most_70 ?_
  refine q_top (y := nI 1) (by decide +kernel) ?_
  refine lv_bipush (v := -50) C.hx C.hb dL_most_71 (by decide +kernel) ?_
  refine lv_iconst (v := nI 0) C.hx C.hb dL_most_73 (by decide +kernel) ?_
  refine q_cA (L := S83) (L' := S84) (r := nI 0) (c2 := 114) (s2 := 1261) (As := [.int (nI 3), .int (nI 0), .int (nI 1), .int (-50), .int (nI 0)]) C hs hP hD hS (ca_ahead (nI 0) (nI 1) (-50) (nI 0) (nI 0) (cs_aheadC S84 0 1 (-50) 0 [] (by decide +kernel))) kl_L_102 hl rfl rfl (Nat.le_of_ble_eq_true rfl) ⟨Nat.le_of_ble_eq_true rfl, Nat.le_of_ble_eq_true rfl⟩ ⟨Nat.le_of_ble_eq_true rfl, Nat.le_of_ble_eq_true rfl⟩ ⟨Nat.le_of_ble_eq_true rfl, Nat.le_of_ble_eq_true rfl⟩ dL_most_74 (fun g z H locs hs hP hD hS => ?_)
  refine lv_iload_n C.hx C.hb dL_most_77 rfl (lv_at hl 0 rfl) ?_
  refine lv_bipush (v := nI 40) C.hx C.hb dL_most_78 (by decide +kernel) ?_
  refine lv_icmp_ge (tgt := 87) C.hx C.hb dL_most_80 (by decide) (fun c9 => absurd c9 (by decide +kernel)) (fun _ => ?_)
  refine lv_iconst (v := nI 0) C.hx C.hb dL_most_83 (by decide +kernel) ?_
  refine lv_goto (tgt := 89) C.hx C.hb dL_most_84 (by decide) ?_
  refine lv_icmp_eq (tgt := 94) C.hx C.hb dL_most_89 (by decide) (fun _ => ?_) (fun c9 => absurd c9 (by decide +kernel))
  refine lv_iinc (v := nI 31) (lv' := [(1, .int (nI 31)), (0, .ref (ad 70))]) C.hx C.hb dL_most_94 hl (k := 0) rfl (by decide +kernel) (by decide) rfl (fun ls hl => ?_)
  refine lv_goto (tgt := 53) C.hx C.hb dL_most_97 (by decide) ?_
  refine lv_iload_n C.hx C.hb dL_most_53 rfl (lv_at hl 0 rfl) ?_
  refine lv_bipush (v := nI 41) C.hx C.hb dL_most_54 (by decide +kernel) ?_
  refine lv_icmp_ge (tgt := 100) C.hx C.hb dL_most_56 (by decide) (fun c9 => absurd c9 (by decide +kernel)) (fun _ => ?_)
  refine lv_aload_n C.hx C.hb dL_most_59 rfl (lv_at hl 1 rfl) ?_
  refine lv_iconst (v := nI 3) C.hx C.hb dL_most_60 (by decide +kernel) ?_
  refine lv_iload_n C.hx C.hb dL_most_61 rfl (lv_at hl 0 rfl) ?_
  refine lv_bipush (v := nI 15) C.hx C.hb dL_most_62 (by decide +kernel) ?_
  refine lv_irem C.hx C.hb dL_most_64 (by decide +kernel) ?_
  refine q_top (y := nI 1) (by decide +kernel) ?_
  refine lv_iload_n C.hx C.hb dL_most_65 rfl (lv_at hl 0 rfl) ?_
  refine lv_bipush (v := nI 15) C.hx C.hb dL_most_66 (by decide +kernel) ?_
  refine lv_irem C.hx C.hb dL_most_68 (by decide +kernel) ?_
  refine q_top (y := nI 1) (by decide +kernel) ?_
  refine lv_iconst (v := nI 1) C.hx C.hb dL_most_69 (by decide +kernel) ?_
  refine lv_iadd C.hx C.hb dL_most_70 ?_
  refine q_top (y := nI 2) (by decide +kernel) ?_
  refine lv_bipush (v := -50) C.hx C.hb dL_most_71 (by decide +kernel) ?_
  refine lv_iconst (v := nI 0) C.hx C.hb dL_most_73 (by decide +kernel) ?_
  refine q_cA (L := S84) (L' := S85) (r := nI 0) (c2 := 115) (s2 := 1267) (As := [.int (nI 3), .int (nI 1), .int (nI 2), .int (-50), .int (nI 0)]) C hs hP hD hS (ca_ahead (nI 1) (nI 2) (-50) (nI 0) (nI 0) (cs_aheadC S85 1 2 (-50) 0 [] (by decide +kernel))) kl_L_102 hl rfl rfl (Nat.le_of_ble_eq_true rfl) ⟨Nat.le_of_ble_eq_true rfl, Nat.le_of_ble_eq_true rfl⟩ ⟨Nat.le_of_ble_eq_true rfl, Nat.le_of_ble_eq_true rfl⟩ ⟨Nat.le_of_ble_eq_true rfl, Nat.le_of_ble_eq_true rfl⟩ dL_most_74 (fun g z H locs hs hP hD hS => ?_)
  refine lv_iload_n C.hx C.hb dL_most_77 rfl (lv_at hl 0 rfl) ?_
  refine lv_bipush (v := nI 40) C.hx C.hb dL_most_78 (by decide +kernel) ?_
  refine lv_icmp_ge (tgt := 87) C.hx C.hb dL_most_80 (by decide) (fun c9 => absurd c9 (by decide +kernel)) (fun _ => ?_)
  refine lv_iconst (v := nI 0) C.hx C.hb dL_most_83 (by decide +kernel) ?_
  refine lv_goto (tgt := 89) C.hx C.hb dL_most_84 (by decide) ?_
  refine lv_icmp_eq (tgt := 94) C.hx C.hb dL_most_89 (by decide) (fun _ => ?_) (fun c9 => absurd c9 (by decide +kernel))
  exact kk g z H locs ls hs hP hD hS hl

set_option maxRecDepth 100000 in
set_option maxHeartbeats 4000000 in
theorem tr_most_15 {p : Program} {l : Launch} {e : Env} {s : State} {m : MethodId} {args : Array Value} {below : List Frame} {meth : Method} {c : Code} {D : va_G} {cA : ClassId} {A : Nat → Prop} {ad : Nat → Nat} {Q : State → Prop} (C : lcx p l s m c cL_most 2 D cA A) (kk : ∀ (g : Nat → Nat → Int32) (z : Nat → Nat) (H : Heap) (locs : List Loc) (ls : Array Slot), isL S88 g z → va_P D vwCl (rlW cA ad g z) H → va_D A (rlW cA ad g z) → va_S A s.heap H locs → lv_has ls 2 [(1, .int (nI 34)), (0, .ref (ad 70))] → W p l e rm_Lmost s m args below meth c H locs 118 1285 Q (F0 m 94 ls [])) : ∀ (g : Nat → Nat → Int32) (z : Nat → Nat) (H : Heap) (locs : List Loc) (ls : Array Slot), isL S85 g z → va_P D vwCl (rlW cA ad g z) H → va_D A (rlW cA ad g z) → va_S A s.heap H locs → lv_has ls 2 [(1, .int (nI 31)), (0, .ref (ad 70))] → W p l e rm_Lmost s m args below meth c H locs 115 1267 Q (F0 m 94 ls []) := by
  intro g z H locs ls hs hP hD hS hl
  refine lv_iinc (v := nI 32) (lv' := [(1, .int (nI 32)), (0, .ref (ad 70))]) C.hx C.hb dL_most_94 hl (k := 0) rfl (by decide +kernel) (by decide) rfl (fun ls hl => ?_)
  refine lv_goto (tgt := 53) C.hx C.hb dL_most_97 (by decide) ?_
  refine lv_iload_n C.hx C.hb dL_most_53 rfl (lv_at hl 0 rfl) ?_
  refine lv_bipush (v := nI 41) C.hx C.hb dL_most_54 (by decide +kernel) ?_
  refine lv_icmp_ge (tgt := 100) C.hx C.hb dL_most_56 (by decide) (fun c9 => absurd c9 (by decide +kernel)) (fun _ => ?_)
  refine lv_aload_n C.hx C.hb dL_most_59 rfl (lv_at hl 1 rfl) ?_
  refine lv_iconst (v := nI 3) C.hx C.hb dL_most_60 (by decide +kernel) ?_
  refine lv_iload_n C.hx C.hb dL_most_61 rfl (lv_at hl 0 rfl) ?_
  refine lv_bipush (v := nI 15) C.hx C.hb dL_most_62 (by decide +kernel) ?_
  refine lv_irem C.hx C.hb dL_most_64 (by decide +kernel) ?_
  refine q_top (y := nI 2) (by decide +kernel) ?_
  refine lv_iload_n C.hx C.hb dL_most_65 rfl (lv_at hl 0 rfl) ?_
  refine lv_bipush (v := nI 15) C.hx C.hb dL_most_66 (by decide +kernel) ?_
  refine lv_irem C.hx C.hb dL_most_68 (by decide +kernel) ?_
  refine q_top (y := nI 2) (by decide +kernel) ?_
  refine lv_iconst (v := nI 1) C.hx C.hb dL_most_69 (by decide +kernel) ?_
  refine lv_iadd C.hx C.hb dL_most_70 ?_
  refine q_top (y := nI 3) (by decide +kernel) ?_
  refine lv_bipush (v := -50) C.hx C.hb dL_most_71 (by decide +kernel) ?_
  refine lv_iconst (v := nI 0) C.hx C.hb dL_most_73 (by decide +kernel) ?_
  refine q_cA (L := S85) (L' := S86) (r := nI 0) (c2 := 116) (s2 := 1273) (As := [.int (nI 3), .int (nI 2), .int (nI 3), .int (-50), .int (nI 0)]) C hs hP hD hS (ca_ahead (nI 2) (nI 3) (-50) (nI 0) (nI 0) (cs_aheadC S86 2 3 (-50) 0 [] (by decide +kernel))) kl_L_102 hl rfl rfl (Nat.le_of_ble_eq_true rfl) ⟨Nat.le_of_ble_eq_true rfl, Nat.le_of_ble_eq_true rfl⟩ ⟨Nat.le_of_ble_eq_true rfl, Nat.le_of_ble_eq_true rfl⟩ ⟨Nat.le_of_ble_eq_true rfl, Nat.le_of_ble_eq_true rfl⟩ dL_most_74 (fun g z H locs hs hP hD hS => ?_)
  refine lv_iload_n C.hx C.hb dL_most_77 rfl (lv_at hl 0 rfl) ?_
  refine lv_bipush (v := nI 40) C.hx C.hb dL_most_78 (by decide +kernel) ?_
  refine lv_icmp_ge (tgt := 87) C.hx C.hb dL_most_80 (by decide) (fun c9 => absurd c9 (by decide +kernel)) (fun _ => ?_)
  refine lv_iconst (v := nI 0) C.hx C.hb dL_most_83 (by decide +kernel) ?_
  refine lv_goto (tgt := 89) C.hx C.hb dL_most_84 (by decide) ?_
  refine lv_icmp_eq (tgt := 94) C.hx C.hb dL_most_89 (by decide) (fun _ => ?_) (fun c9 => absurd c9 (by decide +kernel))
  refine lv_iinc (v := nI 33) (lv' := [(1, .int (nI 33)), (0, .ref (ad 70))]) C.hx C.hb dL_most_94 hl (k := 0) rfl (by decide +kernel) (by decide) rfl (fun ls hl => ?_)
  refine lv_goto (tgt := 53) C.hx C.hb dL_most_97 (by decide) ?_
  refine lv_iload_n C.hx C.hb dL_most_53 rfl (lv_at hl 0 rfl) ?_
  refine lv_bipush (v := nI 41) C.hx C.hb dL_most_54 (by decide +kernel) ?_
  refine lv_icmp_ge (tgt := 100) C.hx C.hb dL_most_56 (by decide) (fun c9 => absurd c9 (by decide +kernel)) (fun _ => ?_)
  refine lv_aload_n C.hx C.hb dL_most_59 rfl (lv_at hl 1 rfl) ?_
  refine lv_iconst (v := nI 3) C.hx C.hb dL_most_60 (by decide +kernel) ?_
  refine lv_iload_n C.hx C.hb dL_most_61 rfl (lv_at hl 0 rfl) ?_
  refine lv_bipush (v := nI 15) C.hx C.hb dL_most_62 (by decide +kernel) ?_
  refine lv_irem C.hx C.hb dL_most_64 (by decide +kernel) ?_
  refine q_top (y := nI 3) (by decide +kernel) ?_
  refine lv_iload_n C.hx C.hb dL_most_65 rfl (lv_at hl 0 rfl) ?_
  refine lv_bipush (v := nI 15) C.hx C.hb dL_most_66 (by decide +kernel) ?_
  refine lv_irem C.hx C.hb dL_most_68 (by decide +kernel) ?_
  refine q_top (y := nI 3) (by decide +kernel) ?_
  refine lv_iconst (v := nI 1) C.hx C.hb dL_most_69 (by decide +kernel) ?_
  refine lv_iadd C.hx C.hb dL_most_70 ?_
  refine q_top (y := nI 4) (by decide +kernel) ?_
  refine lv_bipush (v := -50) C.hx C.hb dL_most_71 (by decide +kernel) ?_
  refine lv_iconst (v := nI 0) C.hx C.hb dL_most_73 (by decide +kernel) ?_
  refine q_cA (L := S86) (L' := S87) (r := nI 0) (c2 := 117) (s2 := 1279) (As := [.int (nI 3), .int (nI 3), .int (nI 4), .int (-50), .int (nI 0)]) C hs hP hD hS (ca_ahead (nI 3) (nI 4) (-50) (nI 0) (nI 0) (cs_aheadC S87 3 4 (-50) 0 [] (by decide +kernel))) kl_L_102 hl rfl rfl (Nat.le_of_ble_eq_true rfl) ⟨Nat.le_of_ble_eq_true rfl, Nat.le_of_ble_eq_true rfl⟩ ⟨Nat.le_of_ble_eq_true rfl, Nat.le_of_ble_eq_true rfl⟩ ⟨Nat.le_of_ble_eq_true rfl, Nat.le_of_ble_eq_true rfl⟩ dL_most_74 (fun g z H locs hs hP hD hS => ?_)
  refine lv_iload_n C.hx C.hb dL_most_77 rfl (lv_at hl 0 rfl) ?_
  refine lv_bipush (v := nI 40) C.hx C.hb dL_most_78 (by decide +kernel) ?_
  refine lv_icmp_ge (tgt := 87) C.hx C.hb dL_most_80 (by decide) (fun c9 => absurd c9 (by decide +kernel)) (fun _ => ?_)
  refine lv_iconst (v := nI 0) C.hx C.hb dL_most_83 (by decide +kernel) ?_
  refine lv_goto (tgt := 89) C.hx C.hb dL_most_84 (by decide) ?_
  refine lv_icmp_eq (tgt := 94) C.hx C.hb dL_most_89 (by decide) (fun _ => ?_) (fun c9 => absurd c9 (by decide +kernel))
  refine lv_iinc (v := nI 34) (lv' := [(1, .int (nI 34)), (0, .ref (ad 70))]) C.hx C.hb dL_most_94 hl (k := 0) rfl (by decide +kernel) (by decide) rfl (fun ls hl => ?_)
  refine lv_goto (tgt := 53) C.hx C.hb dL_most_97 (by decide) ?_
  refine lv_iload_n C.hx C.hb dL_most_53 rfl (lv_at hl 0 rfl) ?_
  refine lv_bipush (v := nI 41) C.hx C.hb dL_most_54 (by decide +kernel) ?_
  refine lv_icmp_ge (tgt := 100) C.hx C.hb dL_most_56 (by decide) (fun c9 => absurd c9 (by decide +kernel)) (fun _ => ?_)
  refine lv_aload_n C.hx C.hb dL_most_59 rfl (lv_at hl 1 rfl) ?_
  refine lv_iconst (v := nI 3) C.hx C.hb dL_most_60 (by decide +kernel) ?_
  refine lv_iload_n C.hx C.hb dL_most_61 rfl (lv_at hl 0 rfl) ?_
  refine lv_bipush (v := nI 15) C.hx C.hb dL_most_62 (by decide +kernel) ?_
  refine lv_irem C.hx C.hb dL_most_64 (by decide +kernel) ?_
  refine q_top (y := nI 4) (by decide +kernel) ?_
  refine lv_iload_n C.hx C.hb dL_most_65 rfl (lv_at hl 0 rfl) ?_
  refine lv_bipush (v := nI 15) C.hx C.hb dL_most_66 (by decide +kernel) ?_
  refine lv_irem C.hx C.hb dL_most_68 (by decide +kernel) ?_
  refine q_top (y := nI 4) (by decide +kernel) ?_
  refine lv_iconst (v := nI 1) C.hx C.hb dL_most_69 (by decide +kernel) ?_
  refine lv_iadd C.hx C.hb dL_most_70 ?_
  refine q_top (y := nI 5) (by decide +kernel) ?_
  refine lv_bipush (v := -50) C.hx C.hb dL_most_71 (by decide +kernel) ?_
  refine lv_iconst (v := nI 0) C.hx C.hb dL_most_73 (by decide +kernel) ?_
  refine q_cA (L := S87) (L' := S88) (r := nI 0) (c2 := 118) (s2 := 1285) (As := [.int (nI 3), .int (nI 4), .int (nI 5), .int (-50), .int (nI 0)]) C hs hP hD hS (ca_ahead (nI 4) (nI 5) (-50) (nI 0) (nI 0) (cs_aheadC S88 4 5 (-50) 0 [] (by decide +kernel))) kl_L_102 hl rfl rfl (Nat.le_of_ble_eq_true rfl) ⟨Nat.le_of_ble_eq_true rfl, Nat.le_of_ble_eq_true rfl⟩ ⟨Nat.le_of_ble_eq_true rfl, Nat.le_of_ble_eq_true rfl⟩ ⟨Nat.le_of_ble_eq_true rfl, Nat.le_of_ble_eq_true rfl⟩ dL_most_74 (fun g z H locs hs hP hD hS => ?_)
  refine lv_iload_n C.hx C.hb dL_most_77 rfl (lv_at hl 0 rfl) ?_
  refine lv_bipush (v := nI 40) C.hx C.hb dL_most_78 (by decide +kernel) ?_
  refine lv_icmp_ge (tgt := 87) C.hx C.hb dL_most_80 (by decide) (fun c9 => absurd c9 (by decide +kernel)) (fun _ => ?_)
  refine lv_iconst (v := nI 0) C.hx C.hb dL_most_83 (by decide +kernel) ?_
  refine lv_goto (tgt := 89) C.hx C.hb dL_most_84 (by decide) ?_
  refine lv_icmp_eq (tgt := 94) C.hx C.hb dL_most_89 (by decide) (fun _ => ?_) (fun c9 => absurd c9 (by decide +kernel))
  exact kk g z H locs ls hs hP hD hS hl

set_option maxRecDepth 100000 in
set_option maxHeartbeats 4000000 in
theorem tr_most_16 {p : Program} {l : Launch} {e : Env} {s : State} {m : MethodId} {args : Array Value} {below : List Frame} {meth : Method} {c : Code} {D : va_G} {cA : ClassId} {A : Nat → Prop} {ad : Nat → Nat} {Q : State → Prop} (C : lcx p l s m c cL_most 2 D cA A) (kk : ∀ (g : Nat → Nat → Int32) (z : Nat → Nat) (H : Heap) (locs : List Loc) (ls : Array Slot), isL S91 g z → va_P D vwCl (rlW cA ad g z) H → va_D A (rlW cA ad g z) → va_S A s.heap H locs → lv_has ls 2 [(1, .int (nI 37)), (0, .ref (ad 70))] → W p l e rm_Lmost s m args below meth c H locs 121 1303 Q (F0 m 94 ls [])) : ∀ (g : Nat → Nat → Int32) (z : Nat → Nat) (H : Heap) (locs : List Loc) (ls : Array Slot), isL S88 g z → va_P D vwCl (rlW cA ad g z) H → va_D A (rlW cA ad g z) → va_S A s.heap H locs → lv_has ls 2 [(1, .int (nI 34)), (0, .ref (ad 70))] → W p l e rm_Lmost s m args below meth c H locs 118 1285 Q (F0 m 94 ls []) := by
  intro g z H locs ls hs hP hD hS hl
  refine lv_iinc (v := nI 35) (lv' := [(1, .int (nI 35)), (0, .ref (ad 70))]) C.hx C.hb dL_most_94 hl (k := 0) rfl (by decide +kernel) (by decide) rfl (fun ls hl => ?_)
  refine lv_goto (tgt := 53) C.hx C.hb dL_most_97 (by decide) ?_
  refine lv_iload_n C.hx C.hb dL_most_53 rfl (lv_at hl 0 rfl) ?_
  refine lv_bipush (v := nI 41) C.hx C.hb dL_most_54 (by decide +kernel) ?_
  refine lv_icmp_ge (tgt := 100) C.hx C.hb dL_most_56 (by decide) (fun c9 => absurd c9 (by decide +kernel)) (fun _ => ?_)
  refine lv_aload_n C.hx C.hb dL_most_59 rfl (lv_at hl 1 rfl) ?_
  refine lv_iconst (v := nI 3) C.hx C.hb dL_most_60 (by decide +kernel) ?_
  refine lv_iload_n C.hx C.hb dL_most_61 rfl (lv_at hl 0 rfl) ?_
  refine lv_bipush (v := nI 15) C.hx C.hb dL_most_62 (by decide +kernel) ?_
  refine lv_irem C.hx C.hb dL_most_64 (by decide +kernel) ?_
  refine q_top (y := nI 5) (by decide +kernel) ?_
  refine lv_iload_n C.hx C.hb dL_most_65 rfl (lv_at hl 0 rfl) ?_
  refine lv_bipush (v := nI 15) C.hx C.hb dL_most_66 (by decide +kernel) ?_
  refine lv_irem C.hx C.hb dL_most_68 (by decide +kernel) ?_
  refine q_top (y := nI 5) (by decide +kernel) ?_
  refine lv_iconst (v := nI 1) C.hx C.hb dL_most_69 (by decide +kernel) ?_
  refine lv_iadd C.hx C.hb dL_most_70 ?_
  refine q_top (y := nI 6) (by decide +kernel) ?_
  refine lv_bipush (v := -50) C.hx C.hb dL_most_71 (by decide +kernel) ?_
  refine lv_iconst (v := nI 0) C.hx C.hb dL_most_73 (by decide +kernel) ?_
  refine q_cA (L := S88) (L' := S89) (r := nI 0) (c2 := 119) (s2 := 1291) (As := [.int (nI 3), .int (nI 5), .int (nI 6), .int (-50), .int (nI 0)]) C hs hP hD hS (ca_ahead (nI 5) (nI 6) (-50) (nI 0) (nI 0) (cs_aheadC S89 5 6 (-50) 0 [] (by decide +kernel))) kl_L_102 hl rfl rfl (Nat.le_of_ble_eq_true rfl) ⟨Nat.le_of_ble_eq_true rfl, Nat.le_of_ble_eq_true rfl⟩ ⟨Nat.le_of_ble_eq_true rfl, Nat.le_of_ble_eq_true rfl⟩ ⟨Nat.le_of_ble_eq_true rfl, Nat.le_of_ble_eq_true rfl⟩ dL_most_74 (fun g z H locs hs hP hD hS => ?_)
  refine lv_iload_n C.hx C.hb dL_most_77 rfl (lv_at hl 0 rfl) ?_
  refine lv_bipush (v := nI 40) C.hx C.hb dL_most_78 (by decide +kernel) ?_
  refine lv_icmp_ge (tgt := 87) C.hx C.hb dL_most_80 (by decide) (fun c9 => absurd c9 (by decide +kernel)) (fun _ => ?_)
  refine lv_iconst (v := nI 0) C.hx C.hb dL_most_83 (by decide +kernel) ?_
  refine lv_goto (tgt := 89) C.hx C.hb dL_most_84 (by decide) ?_
  refine lv_icmp_eq (tgt := 94) C.hx C.hb dL_most_89 (by decide) (fun _ => ?_) (fun c9 => absurd c9 (by decide +kernel))
  refine lv_iinc (v := nI 36) (lv' := [(1, .int (nI 36)), (0, .ref (ad 70))]) C.hx C.hb dL_most_94 hl (k := 0) rfl (by decide +kernel) (by decide) rfl (fun ls hl => ?_)
  refine lv_goto (tgt := 53) C.hx C.hb dL_most_97 (by decide) ?_
  refine lv_iload_n C.hx C.hb dL_most_53 rfl (lv_at hl 0 rfl) ?_
  refine lv_bipush (v := nI 41) C.hx C.hb dL_most_54 (by decide +kernel) ?_
  refine lv_icmp_ge (tgt := 100) C.hx C.hb dL_most_56 (by decide) (fun c9 => absurd c9 (by decide +kernel)) (fun _ => ?_)
  refine lv_aload_n C.hx C.hb dL_most_59 rfl (lv_at hl 1 rfl) ?_
  refine lv_iconst (v := nI 3) C.hx C.hb dL_most_60 (by decide +kernel) ?_
  refine lv_iload_n C.hx C.hb dL_most_61 rfl (lv_at hl 0 rfl) ?_
  refine lv_bipush (v := nI 15) C.hx C.hb dL_most_62 (by decide +kernel) ?_
  refine lv_irem C.hx C.hb dL_most_64 (by decide +kernel) ?_
  refine q_top (y := nI 6) (by decide +kernel) ?_
  refine lv_iload_n C.hx C.hb dL_most_65 rfl (lv_at hl 0 rfl) ?_
  refine lv_bipush (v := nI 15) C.hx C.hb dL_most_66 (by decide +kernel) ?_
  refine lv_irem C.hx C.hb dL_most_68 (by decide +kernel) ?_
  refine q_top (y := nI 6) (by decide +kernel) ?_
  refine lv_iconst (v := nI 1) C.hx C.hb dL_most_69 (by decide +kernel) ?_
  refine lv_iadd C.hx C.hb dL_most_70 ?_
  refine q_top (y := nI 7) (by decide +kernel) ?_
  refine lv_bipush (v := -50) C.hx C.hb dL_most_71 (by decide +kernel) ?_
  refine lv_iconst (v := nI 0) C.hx C.hb dL_most_73 (by decide +kernel) ?_
  refine q_cA (L := S89) (L' := S90) (r := nI 0) (c2 := 120) (s2 := 1297) (As := [.int (nI 3), .int (nI 6), .int (nI 7), .int (-50), .int (nI 0)]) C hs hP hD hS (ca_ahead (nI 6) (nI 7) (-50) (nI 0) (nI 0) (cs_aheadC S90 6 7 (-50) 0 [] (by decide +kernel))) kl_L_102 hl rfl rfl (Nat.le_of_ble_eq_true rfl) ⟨Nat.le_of_ble_eq_true rfl, Nat.le_of_ble_eq_true rfl⟩ ⟨Nat.le_of_ble_eq_true rfl, Nat.le_of_ble_eq_true rfl⟩ ⟨Nat.le_of_ble_eq_true rfl, Nat.le_of_ble_eq_true rfl⟩ dL_most_74 (fun g z H locs hs hP hD hS => ?_)
  refine lv_iload_n C.hx C.hb dL_most_77 rfl (lv_at hl 0 rfl) ?_
  refine lv_bipush (v := nI 40) C.hx C.hb dL_most_78 (by decide +kernel) ?_
  refine lv_icmp_ge (tgt := 87) C.hx C.hb dL_most_80 (by decide) (fun c9 => absurd c9 (by decide +kernel)) (fun _ => ?_)
  refine lv_iconst (v := nI 0) C.hx C.hb dL_most_83 (by decide +kernel) ?_
  refine lv_goto (tgt := 89) C.hx C.hb dL_most_84 (by decide) ?_
  refine lv_icmp_eq (tgt := 94) C.hx C.hb dL_most_89 (by decide) (fun _ => ?_) (fun c9 => absurd c9 (by decide +kernel))
  refine lv_iinc (v := nI 37) (lv' := [(1, .int (nI 37)), (0, .ref (ad 70))]) C.hx C.hb dL_most_94 hl (k := 0) rfl (by decide +kernel) (by decide) rfl (fun ls hl => ?_)
  refine lv_goto (tgt := 53) C.hx C.hb dL_most_97 (by decide) ?_
  refine lv_iload_n C.hx C.hb dL_most_53 rfl (lv_at hl 0 rfl) ?_
  refine lv_bipush (v := nI 41) C.hx C.hb dL_most_54 (by decide +kernel) ?_
  refine lv_icmp_ge (tgt := 100) C.hx C.hb dL_most_56 (by decide) (fun c9 => absurd c9 (by decide +kernel)) (fun _ => ?_)
  refine lv_aload_n C.hx C.hb dL_most_59 rfl (lv_at hl 1 rfl) ?_
  refine lv_iconst (v := nI 3) C.hx C.hb dL_most_60 (by decide +kernel) ?_
  refine lv_iload_n C.hx C.hb dL_most_61 rfl (lv_at hl 0 rfl) ?_
  refine lv_bipush (v := nI 15) C.hx C.hb dL_most_62 (by decide +kernel) ?_
  refine lv_irem C.hx C.hb dL_most_64 (by decide +kernel) ?_
  refine q_top (y := nI 7) (by decide +kernel) ?_
  refine lv_iload_n C.hx C.hb dL_most_65 rfl (lv_at hl 0 rfl) ?_
  refine lv_bipush (v := nI 15) C.hx C.hb dL_most_66 (by decide +kernel) ?_
  refine lv_irem C.hx C.hb dL_most_68 (by decide +kernel) ?_
  refine q_top (y := nI 7) (by decide +kernel) ?_
  refine lv_iconst (v := nI 1) C.hx C.hb dL_most_69 (by decide +kernel) ?_
  refine lv_iadd C.hx C.hb dL_most_70 ?_
  refine q_top (y := nI 8) (by decide +kernel) ?_
  refine lv_bipush (v := -50) C.hx C.hb dL_most_71 (by decide +kernel) ?_
  refine lv_iconst (v := nI 0) C.hx C.hb dL_most_73 (by decide +kernel) ?_
  refine q_cA (L := S90) (L' := S91) (r := nI 0) (c2 := 121) (s2 := 1303) (As := [.int (nI 3), .int (nI 7), .int (nI 8), .int (-50), .int (nI 0)]) C hs hP hD hS (ca_ahead (nI 7) (nI 8) (-50) (nI 0) (nI 0) (cs_aheadC S91 7 8 (-50) 0 [] (by decide +kernel))) kl_L_102 hl rfl rfl (Nat.le_of_ble_eq_true rfl) ⟨Nat.le_of_ble_eq_true rfl, Nat.le_of_ble_eq_true rfl⟩ ⟨Nat.le_of_ble_eq_true rfl, Nat.le_of_ble_eq_true rfl⟩ ⟨Nat.le_of_ble_eq_true rfl, Nat.le_of_ble_eq_true rfl⟩ dL_most_74 (fun g z H locs hs hP hD hS => ?_)
  refine lv_iload_n C.hx C.hb dL_most_77 rfl (lv_at hl 0 rfl) ?_
  refine lv_bipush (v := nI 40) C.hx C.hb dL_most_78 (by decide +kernel) ?_
  refine lv_icmp_ge (tgt := 87) C.hx C.hb dL_most_80 (by decide) (fun c9 => absurd c9 (by decide +kernel)) (fun _ => ?_)
  refine lv_iconst (v := nI 0) C.hx C.hb dL_most_83 (by decide +kernel) ?_
  refine lv_goto (tgt := 89) C.hx C.hb dL_most_84 (by decide) ?_
  refine lv_icmp_eq (tgt := 94) C.hx C.hb dL_most_89 (by decide) (fun _ => ?_) (fun c9 => absurd c9 (by decide +kernel))
  exact kk g z H locs ls hs hP hD hS hl

set_option maxRecDepth 100000 in
set_option maxHeartbeats 4000000 in
theorem tr_most_17 {p : Program} {l : Launch} {e : Env} {s : State} {m : MethodId} {args : Array Value} {below : List Frame} {meth : Method} {c : Code} {D : va_G} {cA : ClassId} {A : Nat → Prop} {ad : Nat → Nat} {Q : State → Prop} (C : lcx p l s m c cL_most 2 D cA A) (kk : ∀ (g : Nat → Nat → Int32) (z : Nat → Nat) (H : Heap) (locs : List Loc) (ls : Array Slot), isL S93 g z → va_P D vwCl (rlW cA ad g z) H → va_D A (rlW cA ad g z) → va_S A s.heap H locs → lv_has ls 2 [(1, .int (nI 40)), (0, .ref (ad 70))] → W p l e rm_Lmost s m args below meth c H locs 124 1321 Q (F0 m 94 ls [])) : ∀ (g : Nat → Nat → Int32) (z : Nat → Nat) (H : Heap) (locs : List Loc) (ls : Array Slot), isL S91 g z → va_P D vwCl (rlW cA ad g z) H → va_D A (rlW cA ad g z) → va_S A s.heap H locs → lv_has ls 2 [(1, .int (nI 37)), (0, .ref (ad 70))] → W p l e rm_Lmost s m args below meth c H locs 121 1303 Q (F0 m 94 ls []) := by
  intro g z H locs ls hs hP hD hS hl
  refine lv_iinc (v := nI 38) (lv' := [(1, .int (nI 38)), (0, .ref (ad 70))]) C.hx C.hb dL_most_94 hl (k := 0) rfl (by decide +kernel) (by decide) rfl (fun ls hl => ?_)
  refine lv_goto (tgt := 53) C.hx C.hb dL_most_97 (by decide) ?_
  refine lv_iload_n C.hx C.hb dL_most_53 rfl (lv_at hl 0 rfl) ?_
  refine lv_bipush (v := nI 41) C.hx C.hb dL_most_54 (by decide +kernel) ?_
  refine lv_icmp_ge (tgt := 100) C.hx C.hb dL_most_56 (by decide) (fun c9 => absurd c9 (by decide +kernel)) (fun _ => ?_)
  refine lv_aload_n C.hx C.hb dL_most_59 rfl (lv_at hl 1 rfl) ?_
  refine lv_iconst (v := nI 3) C.hx C.hb dL_most_60 (by decide +kernel) ?_
  refine lv_iload_n C.hx C.hb dL_most_61 rfl (lv_at hl 0 rfl) ?_
  refine lv_bipush (v := nI 15) C.hx C.hb dL_most_62 (by decide +kernel) ?_
  refine lv_irem C.hx C.hb dL_most_64 (by decide +kernel) ?_
  refine q_top (y := nI 8) (by decide +kernel) ?_
  refine lv_iload_n C.hx C.hb dL_most_65 rfl (lv_at hl 0 rfl) ?_
  refine lv_bipush (v := nI 15) C.hx C.hb dL_most_66 (by decide +kernel) ?_
  refine lv_irem C.hx C.hb dL_most_68 (by decide +kernel) ?_
  refine q_top (y := nI 8) (by decide +kernel) ?_
  refine lv_iconst (v := nI 1) C.hx C.hb dL_most_69 (by decide +kernel) ?_
  refine lv_iadd C.hx C.hb dL_most_70 ?_
  refine q_top (y := nI 9) (by decide +kernel) ?_
  refine lv_bipush (v := -50) C.hx C.hb dL_most_71 (by decide +kernel) ?_
  refine lv_iconst (v := nI 0) C.hx C.hb dL_most_73 (by decide +kernel) ?_
  refine q_cA (L := S91) (L' := S92) (r := nI 0) (c2 := 122) (s2 := 1309) (As := [.int (nI 3), .int (nI 8), .int (nI 9), .int (-50), .int (nI 0)]) C hs hP hD hS (ca_ahead (nI 8) (nI 9) (-50) (nI 0) (nI 0) (cs_aheadC S92 8 9 (-50) 0 [] (by decide +kernel))) kl_L_102 hl rfl rfl (Nat.le_of_ble_eq_true rfl) ⟨Nat.le_of_ble_eq_true rfl, Nat.le_of_ble_eq_true rfl⟩ ⟨Nat.le_of_ble_eq_true rfl, Nat.le_of_ble_eq_true rfl⟩ ⟨Nat.le_of_ble_eq_true rfl, Nat.le_of_ble_eq_true rfl⟩ dL_most_74 (fun g z H locs hs hP hD hS => ?_)
  refine lv_iload_n C.hx C.hb dL_most_77 rfl (lv_at hl 0 rfl) ?_
  refine lv_bipush (v := nI 40) C.hx C.hb dL_most_78 (by decide +kernel) ?_
  refine lv_icmp_ge (tgt := 87) C.hx C.hb dL_most_80 (by decide) (fun c9 => absurd c9 (by decide +kernel)) (fun _ => ?_)
  refine lv_iconst (v := nI 0) C.hx C.hb dL_most_83 (by decide +kernel) ?_
  refine lv_goto (tgt := 89) C.hx C.hb dL_most_84 (by decide) ?_
  refine lv_icmp_eq (tgt := 94) C.hx C.hb dL_most_89 (by decide) (fun _ => ?_) (fun c9 => absurd c9 (by decide +kernel))
  refine lv_iinc (v := nI 39) (lv' := [(1, .int (nI 39)), (0, .ref (ad 70))]) C.hx C.hb dL_most_94 hl (k := 0) rfl (by decide +kernel) (by decide) rfl (fun ls hl => ?_)
  refine lv_goto (tgt := 53) C.hx C.hb dL_most_97 (by decide) ?_
  refine lv_iload_n C.hx C.hb dL_most_53 rfl (lv_at hl 0 rfl) ?_
  refine lv_bipush (v := nI 41) C.hx C.hb dL_most_54 (by decide +kernel) ?_
  refine lv_icmp_ge (tgt := 100) C.hx C.hb dL_most_56 (by decide) (fun c9 => absurd c9 (by decide +kernel)) (fun _ => ?_)
  refine lv_aload_n C.hx C.hb dL_most_59 rfl (lv_at hl 1 rfl) ?_
  refine lv_iconst (v := nI 3) C.hx C.hb dL_most_60 (by decide +kernel) ?_
  refine lv_iload_n C.hx C.hb dL_most_61 rfl (lv_at hl 0 rfl) ?_
  refine lv_bipush (v := nI 15) C.hx C.hb dL_most_62 (by decide +kernel) ?_
  refine lv_irem C.hx C.hb dL_most_64 (by decide +kernel) ?_
  refine q_top (y := nI 9) (by decide +kernel) ?_
  refine lv_iload_n C.hx C.hb dL_most_65 rfl (lv_at hl 0 rfl) ?_
  refine lv_bipush (v := nI 15) C.hx C.hb dL_most_66 (by decide +kernel) ?_
  refine lv_irem C.hx C.hb dL_most_68 (by decide +kernel) ?_
  refine q_top (y := nI 9) (by decide +kernel) ?_
  refine lv_iconst (v := nI 1) C.hx C.hb dL_most_69 (by decide +kernel) ?_
  refine lv_iadd C.hx C.hb dL_most_70 ?_
  refine q_top (y := nI 10) (by decide +kernel) ?_
  refine lv_bipush (v := -50) C.hx C.hb dL_most_71 (by decide +kernel) ?_
  refine lv_iconst (v := nI 0) C.hx C.hb dL_most_73 (by decide +kernel) ?_
  refine q_cA (L := S92) (L' := S93) (r := nI 0) (c2 := 123) (s2 := 1315) (As := [.int (nI 3), .int (nI 9), .int (nI 10), .int (-50), .int (nI 0)]) C hs hP hD hS (ca_ahead (nI 9) (nI 10) (-50) (nI 0) (nI 0) (cs_aheadC S93 9 10 (-50) 0 [] (by decide +kernel))) kl_L_102 hl rfl rfl (Nat.le_of_ble_eq_true rfl) ⟨Nat.le_of_ble_eq_true rfl, Nat.le_of_ble_eq_true rfl⟩ ⟨Nat.le_of_ble_eq_true rfl, Nat.le_of_ble_eq_true rfl⟩ ⟨Nat.le_of_ble_eq_true rfl, Nat.le_of_ble_eq_true rfl⟩ dL_most_74 (fun g z H locs hs hP hD hS => ?_)
  refine lv_iload_n C.hx C.hb dL_most_77 rfl (lv_at hl 0 rfl) ?_
  refine lv_bipush (v := nI 40) C.hx C.hb dL_most_78 (by decide +kernel) ?_
  refine lv_icmp_ge (tgt := 87) C.hx C.hb dL_most_80 (by decide) (fun c9 => absurd c9 (by decide +kernel)) (fun _ => ?_)
  refine lv_iconst (v := nI 0) C.hx C.hb dL_most_83 (by decide +kernel) ?_
  refine lv_goto (tgt := 89) C.hx C.hb dL_most_84 (by decide) ?_
  refine lv_icmp_eq (tgt := 94) C.hx C.hb dL_most_89 (by decide) (fun _ => ?_) (fun c9 => absurd c9 (by decide +kernel))
  refine lv_iinc (v := nI 40) (lv' := [(1, .int (nI 40)), (0, .ref (ad 70))]) C.hx C.hb dL_most_94 hl (k := 0) rfl (by decide +kernel) (by decide) rfl (fun ls hl => ?_)
  refine lv_goto (tgt := 53) C.hx C.hb dL_most_97 (by decide) ?_
  refine lv_iload_n C.hx C.hb dL_most_53 rfl (lv_at hl 0 rfl) ?_
  refine lv_bipush (v := nI 41) C.hx C.hb dL_most_54 (by decide +kernel) ?_
  refine lv_icmp_ge (tgt := 100) C.hx C.hb dL_most_56 (by decide) (fun c9 => absurd c9 (by decide +kernel)) (fun _ => ?_)
  refine lv_aload_n C.hx C.hb dL_most_59 rfl (lv_at hl 1 rfl) ?_
  refine lv_iconst (v := nI 3) C.hx C.hb dL_most_60 (by decide +kernel) ?_
  refine lv_iload_n C.hx C.hb dL_most_61 rfl (lv_at hl 0 rfl) ?_
  refine lv_bipush (v := nI 15) C.hx C.hb dL_most_62 (by decide +kernel) ?_
  refine lv_irem C.hx C.hb dL_most_64 (by decide +kernel) ?_
  refine q_top (y := nI 10) (by decide +kernel) ?_
  refine lv_iload_n C.hx C.hb dL_most_65 rfl (lv_at hl 0 rfl) ?_
  refine lv_bipush (v := nI 15) C.hx C.hb dL_most_66 (by decide +kernel) ?_
  refine lv_irem C.hx C.hb dL_most_68 (by decide +kernel) ?_
  refine q_top (y := nI 10) (by decide +kernel) ?_
  refine lv_iconst (v := nI 1) C.hx C.hb dL_most_69 (by decide +kernel) ?_
  refine lv_iadd C.hx C.hb dL_most_70 ?_
  refine q_top (y := nI 11) (by decide +kernel) ?_
  refine lv_bipush (v := -50) C.hx C.hb dL_most_71 (by decide +kernel) ?_
  refine lv_iconst (v := nI 0) C.hx C.hb dL_most_73 (by decide +kernel) ?_
  refine q_cA (L := S93) (L' := S93) (r := -7000003) (c2 := 124) (s2 := 1321) (As := [.int (nI 3), .int (nI 10), .int (nI 11), .int (-50), .int (nI 0)]) C hs hP hD hS (cx_aheadF C.htr 10 11 (-50) (nI 0) (by decide +kernel)) kl_L_102 hl rfl rfl (Nat.le_of_ble_eq_true rfl) ⟨Nat.le_of_ble_eq_true rfl, Nat.le_of_ble_eq_true rfl⟩ ⟨Nat.le_of_ble_eq_true rfl, Nat.le_of_ble_eq_true rfl⟩ ⟨Nat.le_of_ble_eq_true rfl, Nat.le_of_ble_eq_true rfl⟩ dL_most_74 (fun g z H locs hs hP hD hS => ?_)
  refine lv_iload_n C.hx C.hb dL_most_77 rfl (lv_at hl 0 rfl) ?_
  refine lv_bipush (v := nI 40) C.hx C.hb dL_most_78 (by decide +kernel) ?_
  refine lv_icmp_ge (tgt := 87) C.hx C.hb dL_most_80 (by decide) (fun _ => ?_) (fun c9 => absurd c9 (by decide +kernel))
  refine lv_ldc (v := -7000003) C.hx C.hb C.hown (C.hT.use kk_L_96 args) dL_most_87 ?_
  refine lv_icmp_eq (tgt := 94) C.hx C.hb dL_most_89 (by decide) (fun _ => ?_) (fun c9 => absurd c9 (by decide +kernel))
  exact kk g z H locs ls hs hP hD hS hl

set_option maxRecDepth 100000 in
set_option maxHeartbeats 4000000 in
theorem tr_most_18 {p : Program} {l : Launch} {e : Env} {s : State} {m : MethodId} {args : Array Value} {below : List Frame} {meth : Method} {c : Code} {D : va_G} {cA : ClassId} {A : Nat → Prop} {ad : Nat → Nat} {Q : State → Prop} (C : lcx p l s m c cL_most 2 D cA A) (kk : ∀ (g : Nat → Nat → Int32) (z : Nat → Nat) (H : Heap) (locs : List Loc) (ls : Array Slot), isL S97 g z → va_P D vwCl (rlW cA ad g z) H → va_D A (rlW cA ad g z) → va_S A s.heap H locs → lv_has ls 2 [(1, .int (nI 2)), (0, .ref (ad 70))] → W p l e rm_Lmost s m args below meth c H locs 126 1333 Q (F0 m 108 ls [])) : ∀ (g : Nat → Nat → Int32) (z : Nat → Nat) (H : Heap) (locs : List Loc) (ls : Array Slot), isL S93 g z → va_P D vwCl (rlW cA ad g z) H → va_D A (rlW cA ad g z) → va_S A s.heap H locs → lv_has ls 2 [(1, .int (nI 40)), (0, .ref (ad 70))] → W p l e rm_Lmost s m args below meth c H locs 124 1321 Q (F0 m 94 ls []) := by
  intro g z H locs ls hs hP hD hS hl
  refine lv_iinc (v := nI 41) (lv' := [(1, .int (nI 41)), (0, .ref (ad 70))]) C.hx C.hb dL_most_94 hl (k := 0) rfl (by decide +kernel) (by decide) rfl (fun ls hl => ?_)
  refine lv_goto (tgt := 53) C.hx C.hb dL_most_97 (by decide) ?_
  refine lv_iload_n C.hx C.hb dL_most_53 rfl (lv_at hl 0 rfl) ?_
  refine lv_bipush (v := nI 41) C.hx C.hb dL_most_54 (by decide +kernel) ?_
  refine lv_icmp_ge (tgt := 100) C.hx C.hb dL_most_56 (by decide) (fun _ => ?_) (fun c9 => absurd c9 (by decide +kernel))
  refine lv_iconst (v := nI 0) C.hx C.hb dL_most_100 (by decide +kernel) ?_
  refine lv_istore_n (lv' := [(1, .int (nI 0)), (0, .ref (ad 70))]) C.hx C.hb dL_most_101 rfl hl (by decide) rfl (fun ls hl => ?_)
  refine lv_iload_n C.hx C.hb dL_most_102 rfl (lv_at hl 0 rfl) ?_
  refine lv_bipush (v := nI 25) C.hx C.hb dL_most_103 (by decide +kernel) ?_
  refine lv_icmp_ge (tgt := 153) C.hx C.hb dL_most_105 (by decide) (fun c9 => absurd c9 (by decide +kernel)) (fun _ => ?_)
  refine lv_aload_n C.hx C.hb dL_most_108 rfl (lv_at hl 1 rfl) ?_
  refine lv_iconst (v := nI 0) C.hx C.hb dL_most_109 (by decide +kernel) ?_
  refine lv_iconst (v := nI 1) C.hx C.hb dL_most_110 (by decide +kernel) ?_
  refine q_cO (L := S93) (L' := S94) (As := [.int (nI 0), .int (nI 1)]) C hs hP hD hS (cs_join S94 0 1 0 (by decide +kernel)) k_X5_join kl_L_51 rfl hl rfl rfl (Nat.le_of_ble_eq_true rfl) ⟨⟨rfl, rfl⟩, Nat.le_of_ble_eq_true rfl, Nat.le_of_ble_eq_true rfl⟩ ⟨Nat.le_of_ble_eq_true rfl, Nat.le_of_ble_eq_true rfl⟩ dL_most_111 (fun g z H locs hs hP hD hS => ?_)
  refine lv_if_ne (tgt := 145) C.hx C.hb dL_most_114 (by decide) (fun c9 => absurd c9 (by decide +kernel)) (fun _ => ?_)
  refine lv_aload_n C.hx C.hb dL_most_117 rfl (lv_at hl 1 rfl) ?_
  refine lv_bipush (v := nI 13) C.hx C.hb dL_most_118 (by decide +kernel) ?_
  refine lv_iconst (v := nI 1) C.hx C.hb dL_most_120 (by decide +kernel) ?_
  refine lv_iconst (v := nI 0) C.hx C.hb dL_most_121 (by decide +kernel) ?_
  refine lv_iconst (v := nI 0) C.hx C.hb dL_most_122 (by decide +kernel) ?_
  refine lv_iconst (v := nI 0) C.hx C.hb dL_most_123 (by decide +kernel) ?_
  refine q_cA (L := S94) (L' := S95) (r := nI 16) (c2 := 125) (s2 := 1327) (As := [.int (nI 13), .int (nI 1), .int (nI 0), .int (nI 0), .int (nI 0)]) C hs hP hD hS (ca_split (nI 1) (nI 0) (nI 0) (nI 0) (nI 16) (cs_split S95 1 16 (by decide +kernel))) kl_L_102 hl rfl rfl (Nat.le_of_ble_eq_true rfl) ⟨Nat.le_of_ble_eq_true rfl, Nat.le_of_ble_eq_true rfl⟩ ⟨Nat.le_of_ble_eq_true rfl, Nat.le_of_ble_eq_true rfl⟩ ⟨Nat.le_of_ble_eq_true rfl, Nat.le_of_ble_eq_true rfl⟩ dL_most_124 (fun g z H locs hs hP hD hS => ?_)
  refine lv_iload_n C.hx C.hb dL_most_127 rfl (lv_at hl 0 rfl) ?_
  refine lv_bipush (v := nI 24) C.hx C.hb dL_most_128 (by decide +kernel) ?_
  refine lv_icmp_ge (tgt := 140) C.hx C.hb dL_most_130 (by decide) (fun c9 => absurd c9 (by decide +kernel)) (fun _ => ?_)
  refine lv_bipush (v := nI 16) C.hx C.hb dL_most_133 (by decide +kernel) ?_
  refine lv_iload_n C.hx C.hb dL_most_135 rfl (lv_at hl 0 rfl) ?_
  refine lv_iadd C.hx C.hb dL_most_136 ?_
  refine q_top (y := nI 16) (by decide +kernel) ?_
  refine lv_goto (tgt := 142) C.hx C.hb dL_most_137 (by decide) ?_
  refine lv_icmp_eq (tgt := 147) C.hx C.hb dL_most_142 (by decide) (fun _ => ?_) (fun c9 => absurd c9 (by decide +kernel))
  refine lv_iinc (v := nI 1) (lv' := [(1, .int (nI 1)), (0, .ref (ad 70))]) C.hx C.hb dL_most_147 hl (k := 0) rfl (by decide +kernel) (by decide) rfl (fun ls hl => ?_)
  refine lv_goto (tgt := 102) C.hx C.hb dL_most_150 (by decide) ?_
  refine lv_iload_n C.hx C.hb dL_most_102 rfl (lv_at hl 0 rfl) ?_
  refine lv_bipush (v := nI 25) C.hx C.hb dL_most_103 (by decide +kernel) ?_
  refine lv_icmp_ge (tgt := 153) C.hx C.hb dL_most_105 (by decide) (fun c9 => absurd c9 (by decide +kernel)) (fun _ => ?_)
  refine lv_aload_n C.hx C.hb dL_most_108 rfl (lv_at hl 1 rfl) ?_
  refine lv_iconst (v := nI 0) C.hx C.hb dL_most_109 (by decide +kernel) ?_
  refine lv_iconst (v := nI 1) C.hx C.hb dL_most_110 (by decide +kernel) ?_
  refine q_cO (L := S95) (L' := S96) (As := [.int (nI 0), .int (nI 1)]) C hs hP hD hS (cs_join S96 0 1 0 (by decide +kernel)) k_X5_join kl_L_51 rfl hl rfl rfl (Nat.le_of_ble_eq_true rfl) ⟨⟨rfl, rfl⟩, Nat.le_of_ble_eq_true rfl, Nat.le_of_ble_eq_true rfl⟩ ⟨Nat.le_of_ble_eq_true rfl, Nat.le_of_ble_eq_true rfl⟩ dL_most_111 (fun g z H locs hs hP hD hS => ?_)
  refine lv_if_ne (tgt := 145) C.hx C.hb dL_most_114 (by decide) (fun c9 => absurd c9 (by decide +kernel)) (fun _ => ?_)
  refine lv_aload_n C.hx C.hb dL_most_117 rfl (lv_at hl 1 rfl) ?_
  refine lv_bipush (v := nI 13) C.hx C.hb dL_most_118 (by decide +kernel) ?_
  refine lv_iconst (v := nI 1) C.hx C.hb dL_most_120 (by decide +kernel) ?_
  refine lv_iconst (v := nI 0) C.hx C.hb dL_most_121 (by decide +kernel) ?_
  refine lv_iconst (v := nI 0) C.hx C.hb dL_most_122 (by decide +kernel) ?_
  refine lv_iconst (v := nI 0) C.hx C.hb dL_most_123 (by decide +kernel) ?_
  refine q_cA (L := S96) (L' := S97) (r := nI 17) (c2 := 126) (s2 := 1333) (As := [.int (nI 13), .int (nI 1), .int (nI 0), .int (nI 0), .int (nI 0)]) C hs hP hD hS (ca_split (nI 1) (nI 0) (nI 0) (nI 0) (nI 17) (cs_split S97 1 17 (by decide +kernel))) kl_L_102 hl rfl rfl (Nat.le_of_ble_eq_true rfl) ⟨Nat.le_of_ble_eq_true rfl, Nat.le_of_ble_eq_true rfl⟩ ⟨Nat.le_of_ble_eq_true rfl, Nat.le_of_ble_eq_true rfl⟩ ⟨Nat.le_of_ble_eq_true rfl, Nat.le_of_ble_eq_true rfl⟩ dL_most_124 (fun g z H locs hs hP hD hS => ?_)
  refine lv_iload_n C.hx C.hb dL_most_127 rfl (lv_at hl 0 rfl) ?_
  refine lv_bipush (v := nI 24) C.hx C.hb dL_most_128 (by decide +kernel) ?_
  refine lv_icmp_ge (tgt := 140) C.hx C.hb dL_most_130 (by decide) (fun c9 => absurd c9 (by decide +kernel)) (fun _ => ?_)
  refine lv_bipush (v := nI 16) C.hx C.hb dL_most_133 (by decide +kernel) ?_
  refine lv_iload_n C.hx C.hb dL_most_135 rfl (lv_at hl 0 rfl) ?_
  refine lv_iadd C.hx C.hb dL_most_136 ?_
  refine q_top (y := nI 17) (by decide +kernel) ?_
  refine lv_goto (tgt := 142) C.hx C.hb dL_most_137 (by decide) ?_
  refine lv_icmp_eq (tgt := 147) C.hx C.hb dL_most_142 (by decide) (fun _ => ?_) (fun c9 => absurd c9 (by decide +kernel))
  refine lv_iinc (v := nI 2) (lv' := [(1, .int (nI 2)), (0, .ref (ad 70))]) C.hx C.hb dL_most_147 hl (k := 0) rfl (by decide +kernel) (by decide) rfl (fun ls hl => ?_)
  refine lv_goto (tgt := 102) C.hx C.hb dL_most_150 (by decide) ?_
  refine lv_iload_n C.hx C.hb dL_most_102 rfl (lv_at hl 0 rfl) ?_
  refine lv_bipush (v := nI 25) C.hx C.hb dL_most_103 (by decide +kernel) ?_
  refine lv_icmp_ge (tgt := 153) C.hx C.hb dL_most_105 (by decide) (fun c9 => absurd c9 (by decide +kernel)) (fun _ => ?_)
  exact kk g z H locs ls hs hP hD hS hl

set_option maxRecDepth 100000 in
set_option maxHeartbeats 4000000 in
theorem tr_most_19 {p : Program} {l : Launch} {e : Env} {s : State} {m : MethodId} {args : Array Value} {below : List Frame} {meth : Method} {c : Code} {D : va_G} {cA : ClassId} {A : Nat → Prop} {ad : Nat → Nat} {Q : State → Prop} (C : lcx p l s m c cL_most 2 D cA A) (kk : ∀ (g : Nat → Nat → Int32) (z : Nat → Nat) (H : Heap) (locs : List Loc) (ls : Array Slot), isL S103 g z → va_P D vwCl (rlW cA ad g z) H → va_D A (rlW cA ad g z) → va_S A s.heap H locs → lv_has ls 2 [(1, .int (nI 4)), (0, .ref (ad 70))] → W p l e rm_Lmost s m args below meth c H locs 129 1351 Q (F0 m 147 ls [])) : ∀ (g : Nat → Nat → Int32) (z : Nat → Nat) (H : Heap) (locs : List Loc) (ls : Array Slot), isL S97 g z → va_P D vwCl (rlW cA ad g z) H → va_D A (rlW cA ad g z) → va_S A s.heap H locs → lv_has ls 2 [(1, .int (nI 2)), (0, .ref (ad 70))] → W p l e rm_Lmost s m args below meth c H locs 126 1333 Q (F0 m 108 ls []) := by
  intro g z H locs ls hs hP hD hS hl
  refine lv_aload_n C.hx C.hb dL_most_108 rfl (lv_at hl 1 rfl) ?_
  refine lv_iconst (v := nI 0) C.hx C.hb dL_most_109 (by decide +kernel) ?_
  refine lv_iconst (v := nI 1) C.hx C.hb dL_most_110 (by decide +kernel) ?_
  refine q_cO (L := S97) (L' := S98) (As := [.int (nI 0), .int (nI 1)]) C hs hP hD hS (cs_join S98 0 1 0 (by decide +kernel)) k_X5_join kl_L_51 rfl hl rfl rfl (Nat.le_of_ble_eq_true rfl) ⟨⟨rfl, rfl⟩, Nat.le_of_ble_eq_true rfl, Nat.le_of_ble_eq_true rfl⟩ ⟨Nat.le_of_ble_eq_true rfl, Nat.le_of_ble_eq_true rfl⟩ dL_most_111 (fun g z H locs hs hP hD hS => ?_)
  refine lv_if_ne (tgt := 145) C.hx C.hb dL_most_114 (by decide) (fun c9 => absurd c9 (by decide +kernel)) (fun _ => ?_)
  refine lv_aload_n C.hx C.hb dL_most_117 rfl (lv_at hl 1 rfl) ?_
  refine lv_bipush (v := nI 13) C.hx C.hb dL_most_118 (by decide +kernel) ?_
  refine lv_iconst (v := nI 1) C.hx C.hb dL_most_120 (by decide +kernel) ?_
  refine lv_iconst (v := nI 0) C.hx C.hb dL_most_121 (by decide +kernel) ?_
  refine lv_iconst (v := nI 0) C.hx C.hb dL_most_122 (by decide +kernel) ?_
  refine lv_iconst (v := nI 0) C.hx C.hb dL_most_123 (by decide +kernel) ?_
  refine q_cA (L := S98) (L' := S99) (r := nI 18) (c2 := 127) (s2 := 1339) (As := [.int (nI 13), .int (nI 1), .int (nI 0), .int (nI 0), .int (nI 0)]) C hs hP hD hS (ca_split (nI 1) (nI 0) (nI 0) (nI 0) (nI 18) (cs_split S99 1 18 (by decide +kernel))) kl_L_102 hl rfl rfl (Nat.le_of_ble_eq_true rfl) ⟨Nat.le_of_ble_eq_true rfl, Nat.le_of_ble_eq_true rfl⟩ ⟨Nat.le_of_ble_eq_true rfl, Nat.le_of_ble_eq_true rfl⟩ ⟨Nat.le_of_ble_eq_true rfl, Nat.le_of_ble_eq_true rfl⟩ dL_most_124 (fun g z H locs hs hP hD hS => ?_)
  refine lv_iload_n C.hx C.hb dL_most_127 rfl (lv_at hl 0 rfl) ?_
  refine lv_bipush (v := nI 24) C.hx C.hb dL_most_128 (by decide +kernel) ?_
  refine lv_icmp_ge (tgt := 140) C.hx C.hb dL_most_130 (by decide) (fun c9 => absurd c9 (by decide +kernel)) (fun _ => ?_)
  refine lv_bipush (v := nI 16) C.hx C.hb dL_most_133 (by decide +kernel) ?_
  refine lv_iload_n C.hx C.hb dL_most_135 rfl (lv_at hl 0 rfl) ?_
  refine lv_iadd C.hx C.hb dL_most_136 ?_
  refine q_top (y := nI 18) (by decide +kernel) ?_
  refine lv_goto (tgt := 142) C.hx C.hb dL_most_137 (by decide) ?_
  refine lv_icmp_eq (tgt := 147) C.hx C.hb dL_most_142 (by decide) (fun _ => ?_) (fun c9 => absurd c9 (by decide +kernel))
  refine lv_iinc (v := nI 3) (lv' := [(1, .int (nI 3)), (0, .ref (ad 70))]) C.hx C.hb dL_most_147 hl (k := 0) rfl (by decide +kernel) (by decide) rfl (fun ls hl => ?_)
  refine lv_goto (tgt := 102) C.hx C.hb dL_most_150 (by decide) ?_
  refine lv_iload_n C.hx C.hb dL_most_102 rfl (lv_at hl 0 rfl) ?_
  refine lv_bipush (v := nI 25) C.hx C.hb dL_most_103 (by decide +kernel) ?_
  refine lv_icmp_ge (tgt := 153) C.hx C.hb dL_most_105 (by decide) (fun c9 => absurd c9 (by decide +kernel)) (fun _ => ?_)
  refine lv_aload_n C.hx C.hb dL_most_108 rfl (lv_at hl 1 rfl) ?_
  refine lv_iconst (v := nI 0) C.hx C.hb dL_most_109 (by decide +kernel) ?_
  refine lv_iconst (v := nI 1) C.hx C.hb dL_most_110 (by decide +kernel) ?_
  refine q_cO (L := S99) (L' := S100) (As := [.int (nI 0), .int (nI 1)]) C hs hP hD hS (cs_join S100 0 1 0 (by decide +kernel)) k_X5_join kl_L_51 rfl hl rfl rfl (Nat.le_of_ble_eq_true rfl) ⟨⟨rfl, rfl⟩, Nat.le_of_ble_eq_true rfl, Nat.le_of_ble_eq_true rfl⟩ ⟨Nat.le_of_ble_eq_true rfl, Nat.le_of_ble_eq_true rfl⟩ dL_most_111 (fun g z H locs hs hP hD hS => ?_)
  refine lv_if_ne (tgt := 145) C.hx C.hb dL_most_114 (by decide) (fun c9 => absurd c9 (by decide +kernel)) (fun _ => ?_)
  refine lv_aload_n C.hx C.hb dL_most_117 rfl (lv_at hl 1 rfl) ?_
  refine lv_bipush (v := nI 13) C.hx C.hb dL_most_118 (by decide +kernel) ?_
  refine lv_iconst (v := nI 1) C.hx C.hb dL_most_120 (by decide +kernel) ?_
  refine lv_iconst (v := nI 0) C.hx C.hb dL_most_121 (by decide +kernel) ?_
  refine lv_iconst (v := nI 0) C.hx C.hb dL_most_122 (by decide +kernel) ?_
  refine lv_iconst (v := nI 0) C.hx C.hb dL_most_123 (by decide +kernel) ?_
  refine q_cA (L := S100) (L' := S101) (r := nI 19) (c2 := 128) (s2 := 1345) (As := [.int (nI 13), .int (nI 1), .int (nI 0), .int (nI 0), .int (nI 0)]) C hs hP hD hS (ca_split (nI 1) (nI 0) (nI 0) (nI 0) (nI 19) (cs_split S101 1 19 (by decide +kernel))) kl_L_102 hl rfl rfl (Nat.le_of_ble_eq_true rfl) ⟨Nat.le_of_ble_eq_true rfl, Nat.le_of_ble_eq_true rfl⟩ ⟨Nat.le_of_ble_eq_true rfl, Nat.le_of_ble_eq_true rfl⟩ ⟨Nat.le_of_ble_eq_true rfl, Nat.le_of_ble_eq_true rfl⟩ dL_most_124 (fun g z H locs hs hP hD hS => ?_)
  refine lv_iload_n C.hx C.hb dL_most_127 rfl (lv_at hl 0 rfl) ?_
  refine lv_bipush (v := nI 24) C.hx C.hb dL_most_128 (by decide +kernel) ?_
  refine lv_icmp_ge (tgt := 140) C.hx C.hb dL_most_130 (by decide) (fun c9 => absurd c9 (by decide +kernel)) (fun _ => ?_)
  refine lv_bipush (v := nI 16) C.hx C.hb dL_most_133 (by decide +kernel) ?_
  refine lv_iload_n C.hx C.hb dL_most_135 rfl (lv_at hl 0 rfl) ?_
  refine lv_iadd C.hx C.hb dL_most_136 ?_
  refine q_top (y := nI 19) (by decide +kernel) ?_
  refine lv_goto (tgt := 142) C.hx C.hb dL_most_137 (by decide) ?_
  refine lv_icmp_eq (tgt := 147) C.hx C.hb dL_most_142 (by decide) (fun _ => ?_) (fun c9 => absurd c9 (by decide +kernel))
  refine lv_iinc (v := nI 4) (lv' := [(1, .int (nI 4)), (0, .ref (ad 70))]) C.hx C.hb dL_most_147 hl (k := 0) rfl (by decide +kernel) (by decide) rfl (fun ls hl => ?_)
  refine lv_goto (tgt := 102) C.hx C.hb dL_most_150 (by decide) ?_
  refine lv_iload_n C.hx C.hb dL_most_102 rfl (lv_at hl 0 rfl) ?_
  refine lv_bipush (v := nI 25) C.hx C.hb dL_most_103 (by decide +kernel) ?_
  refine lv_icmp_ge (tgt := 153) C.hx C.hb dL_most_105 (by decide) (fun c9 => absurd c9 (by decide +kernel)) (fun _ => ?_)
  refine lv_aload_n C.hx C.hb dL_most_108 rfl (lv_at hl 1 rfl) ?_
  refine lv_iconst (v := nI 0) C.hx C.hb dL_most_109 (by decide +kernel) ?_
  refine lv_iconst (v := nI 1) C.hx C.hb dL_most_110 (by decide +kernel) ?_
  refine q_cO (L := S101) (L' := S102) (As := [.int (nI 0), .int (nI 1)]) C hs hP hD hS (cs_join S102 0 1 0 (by decide +kernel)) k_X5_join kl_L_51 rfl hl rfl rfl (Nat.le_of_ble_eq_true rfl) ⟨⟨rfl, rfl⟩, Nat.le_of_ble_eq_true rfl, Nat.le_of_ble_eq_true rfl⟩ ⟨Nat.le_of_ble_eq_true rfl, Nat.le_of_ble_eq_true rfl⟩ dL_most_111 (fun g z H locs hs hP hD hS => ?_)
  refine lv_if_ne (tgt := 145) C.hx C.hb dL_most_114 (by decide) (fun c9 => absurd c9 (by decide +kernel)) (fun _ => ?_)
  refine lv_aload_n C.hx C.hb dL_most_117 rfl (lv_at hl 1 rfl) ?_
  refine lv_bipush (v := nI 13) C.hx C.hb dL_most_118 (by decide +kernel) ?_
  refine lv_iconst (v := nI 1) C.hx C.hb dL_most_120 (by decide +kernel) ?_
  refine lv_iconst (v := nI 0) C.hx C.hb dL_most_121 (by decide +kernel) ?_
  refine lv_iconst (v := nI 0) C.hx C.hb dL_most_122 (by decide +kernel) ?_
  refine lv_iconst (v := nI 0) C.hx C.hb dL_most_123 (by decide +kernel) ?_
  refine q_cA (L := S102) (L' := S103) (r := nI 20) (c2 := 129) (s2 := 1351) (As := [.int (nI 13), .int (nI 1), .int (nI 0), .int (nI 0), .int (nI 0)]) C hs hP hD hS (ca_split (nI 1) (nI 0) (nI 0) (nI 0) (nI 20) (cs_split S103 1 20 (by decide +kernel))) kl_L_102 hl rfl rfl (Nat.le_of_ble_eq_true rfl) ⟨Nat.le_of_ble_eq_true rfl, Nat.le_of_ble_eq_true rfl⟩ ⟨Nat.le_of_ble_eq_true rfl, Nat.le_of_ble_eq_true rfl⟩ ⟨Nat.le_of_ble_eq_true rfl, Nat.le_of_ble_eq_true rfl⟩ dL_most_124 (fun g z H locs hs hP hD hS => ?_)
  refine lv_iload_n C.hx C.hb dL_most_127 rfl (lv_at hl 0 rfl) ?_
  refine lv_bipush (v := nI 24) C.hx C.hb dL_most_128 (by decide +kernel) ?_
  refine lv_icmp_ge (tgt := 140) C.hx C.hb dL_most_130 (by decide) (fun c9 => absurd c9 (by decide +kernel)) (fun _ => ?_)
  refine lv_bipush (v := nI 16) C.hx C.hb dL_most_133 (by decide +kernel) ?_
  refine lv_iload_n C.hx C.hb dL_most_135 rfl (lv_at hl 0 rfl) ?_
  refine lv_iadd C.hx C.hb dL_most_136 ?_
  refine q_top (y := nI 20) (by decide +kernel) ?_
  refine lv_goto (tgt := 142) C.hx C.hb dL_most_137 (by decide) ?_
  refine lv_icmp_eq (tgt := 147) C.hx C.hb dL_most_142 (by decide) (fun _ => ?_) (fun c9 => absurd c9 (by decide +kernel))
  exact kk g z H locs ls hs hP hD hS hl

set_option maxRecDepth 100000 in
set_option maxHeartbeats 4000000 in
theorem tr_most_20 {p : Program} {l : Launch} {e : Env} {s : State} {m : MethodId} {args : Array Value} {below : List Frame} {meth : Method} {c : Code} {D : va_G} {cA : ClassId} {A : Nat → Prop} {ad : Nat → Nat} {Q : State → Prop} (C : lcx p l s m c cL_most 2 D cA A) (kk : ∀ (g : Nat → Nat → Int32) (z : Nat → Nat) (H : Heap) (locs : List Loc) (ls : Array Slot), isL S108 g z → va_P D vwCl (rlW cA ad g z) H → va_D A (rlW cA ad g z) → va_S A s.heap H locs → lv_has ls 2 [(1, .int (nI 7)), (0, .ref (ad 70))] → W p l e rm_Lmost s m args below meth c H locs 131 1363 Q (F0 m 117 ls [])) : ∀ (g : Nat → Nat → Int32) (z : Nat → Nat) (H : Heap) (locs : List Loc) (ls : Array Slot), isL S103 g z → va_P D vwCl (rlW cA ad g z) H → va_D A (rlW cA ad g z) → va_S A s.heap H locs → lv_has ls 2 [(1, .int (nI 4)), (0, .ref (ad 70))] → W p l e rm_Lmost s m args below meth c H locs 129 1351 Q (F0 m 147 ls []) := by
  intro g z H locs ls hs hP hD hS hl
  refine lv_iinc (v := nI 5) (lv' := [(1, .int (nI 5)), (0, .ref (ad 70))]) C.hx C.hb dL_most_147 hl (k := 0) rfl (by decide +kernel) (by decide) rfl (fun ls hl => ?_)
  refine lv_goto (tgt := 102) C.hx C.hb dL_most_150 (by decide) ?_
  refine lv_iload_n C.hx C.hb dL_most_102 rfl (lv_at hl 0 rfl) ?_
  refine lv_bipush (v := nI 25) C.hx C.hb dL_most_103 (by decide +kernel) ?_
  refine lv_icmp_ge (tgt := 153) C.hx C.hb dL_most_105 (by decide) (fun c9 => absurd c9 (by decide +kernel)) (fun _ => ?_)
  refine lv_aload_n C.hx C.hb dL_most_108 rfl (lv_at hl 1 rfl) ?_
  refine lv_iconst (v := nI 0) C.hx C.hb dL_most_109 (by decide +kernel) ?_
  refine lv_iconst (v := nI 1) C.hx C.hb dL_most_110 (by decide +kernel) ?_
  refine q_cO (L := S103) (L' := S104) (As := [.int (nI 0), .int (nI 1)]) C hs hP hD hS (cs_join S104 0 1 0 (by decide +kernel)) k_X5_join kl_L_51 rfl hl rfl rfl (Nat.le_of_ble_eq_true rfl) ⟨⟨rfl, rfl⟩, Nat.le_of_ble_eq_true rfl, Nat.le_of_ble_eq_true rfl⟩ ⟨Nat.le_of_ble_eq_true rfl, Nat.le_of_ble_eq_true rfl⟩ dL_most_111 (fun g z H locs hs hP hD hS => ?_)
  refine lv_if_ne (tgt := 145) C.hx C.hb dL_most_114 (by decide) (fun c9 => absurd c9 (by decide +kernel)) (fun _ => ?_)
  refine lv_aload_n C.hx C.hb dL_most_117 rfl (lv_at hl 1 rfl) ?_
  refine lv_bipush (v := nI 13) C.hx C.hb dL_most_118 (by decide +kernel) ?_
  refine lv_iconst (v := nI 1) C.hx C.hb dL_most_120 (by decide +kernel) ?_
  refine lv_iconst (v := nI 0) C.hx C.hb dL_most_121 (by decide +kernel) ?_
  refine lv_iconst (v := nI 0) C.hx C.hb dL_most_122 (by decide +kernel) ?_
  refine lv_iconst (v := nI 0) C.hx C.hb dL_most_123 (by decide +kernel) ?_
  refine q_cA (L := S104) (L' := S105) (r := nI 21) (c2 := 130) (s2 := 1357) (As := [.int (nI 13), .int (nI 1), .int (nI 0), .int (nI 0), .int (nI 0)]) C hs hP hD hS (ca_split (nI 1) (nI 0) (nI 0) (nI 0) (nI 21) (cs_split S105 1 21 (by decide +kernel))) kl_L_102 hl rfl rfl (Nat.le_of_ble_eq_true rfl) ⟨Nat.le_of_ble_eq_true rfl, Nat.le_of_ble_eq_true rfl⟩ ⟨Nat.le_of_ble_eq_true rfl, Nat.le_of_ble_eq_true rfl⟩ ⟨Nat.le_of_ble_eq_true rfl, Nat.le_of_ble_eq_true rfl⟩ dL_most_124 (fun g z H locs hs hP hD hS => ?_)
  refine lv_iload_n C.hx C.hb dL_most_127 rfl (lv_at hl 0 rfl) ?_
  refine lv_bipush (v := nI 24) C.hx C.hb dL_most_128 (by decide +kernel) ?_
  refine lv_icmp_ge (tgt := 140) C.hx C.hb dL_most_130 (by decide) (fun c9 => absurd c9 (by decide +kernel)) (fun _ => ?_)
  refine lv_bipush (v := nI 16) C.hx C.hb dL_most_133 (by decide +kernel) ?_
  refine lv_iload_n C.hx C.hb dL_most_135 rfl (lv_at hl 0 rfl) ?_
  refine lv_iadd C.hx C.hb dL_most_136 ?_
  refine q_top (y := nI 21) (by decide +kernel) ?_
  refine lv_goto (tgt := 142) C.hx C.hb dL_most_137 (by decide) ?_
  refine lv_icmp_eq (tgt := 147) C.hx C.hb dL_most_142 (by decide) (fun _ => ?_) (fun c9 => absurd c9 (by decide +kernel))
  refine lv_iinc (v := nI 6) (lv' := [(1, .int (nI 6)), (0, .ref (ad 70))]) C.hx C.hb dL_most_147 hl (k := 0) rfl (by decide +kernel) (by decide) rfl (fun ls hl => ?_)
  refine lv_goto (tgt := 102) C.hx C.hb dL_most_150 (by decide) ?_
  refine lv_iload_n C.hx C.hb dL_most_102 rfl (lv_at hl 0 rfl) ?_
  refine lv_bipush (v := nI 25) C.hx C.hb dL_most_103 (by decide +kernel) ?_
  refine lv_icmp_ge (tgt := 153) C.hx C.hb dL_most_105 (by decide) (fun c9 => absurd c9 (by decide +kernel)) (fun _ => ?_)
  refine lv_aload_n C.hx C.hb dL_most_108 rfl (lv_at hl 1 rfl) ?_
  refine lv_iconst (v := nI 0) C.hx C.hb dL_most_109 (by decide +kernel) ?_
  refine lv_iconst (v := nI 1) C.hx C.hb dL_most_110 (by decide +kernel) ?_
  refine q_cO (L := S105) (L' := S106) (As := [.int (nI 0), .int (nI 1)]) C hs hP hD hS (cs_join S106 0 1 0 (by decide +kernel)) k_X5_join kl_L_51 rfl hl rfl rfl (Nat.le_of_ble_eq_true rfl) ⟨⟨rfl, rfl⟩, Nat.le_of_ble_eq_true rfl, Nat.le_of_ble_eq_true rfl⟩ ⟨Nat.le_of_ble_eq_true rfl, Nat.le_of_ble_eq_true rfl⟩ dL_most_111 (fun g z H locs hs hP hD hS => ?_)
  refine lv_if_ne (tgt := 145) C.hx C.hb dL_most_114 (by decide) (fun c9 => absurd c9 (by decide +kernel)) (fun _ => ?_)
  refine lv_aload_n C.hx C.hb dL_most_117 rfl (lv_at hl 1 rfl) ?_
  refine lv_bipush (v := nI 13) C.hx C.hb dL_most_118 (by decide +kernel) ?_
  refine lv_iconst (v := nI 1) C.hx C.hb dL_most_120 (by decide +kernel) ?_
  refine lv_iconst (v := nI 0) C.hx C.hb dL_most_121 (by decide +kernel) ?_
  refine lv_iconst (v := nI 0) C.hx C.hb dL_most_122 (by decide +kernel) ?_
  refine lv_iconst (v := nI 0) C.hx C.hb dL_most_123 (by decide +kernel) ?_
  refine q_cA (L := S106) (L' := S107) (r := nI 22) (c2 := 131) (s2 := 1363) (As := [.int (nI 13), .int (nI 1), .int (nI 0), .int (nI 0), .int (nI 0)]) C hs hP hD hS (ca_split (nI 1) (nI 0) (nI 0) (nI 0) (nI 22) (cs_split S107 1 22 (by decide +kernel))) kl_L_102 hl rfl rfl (Nat.le_of_ble_eq_true rfl) ⟨Nat.le_of_ble_eq_true rfl, Nat.le_of_ble_eq_true rfl⟩ ⟨Nat.le_of_ble_eq_true rfl, Nat.le_of_ble_eq_true rfl⟩ ⟨Nat.le_of_ble_eq_true rfl, Nat.le_of_ble_eq_true rfl⟩ dL_most_124 (fun g z H locs hs hP hD hS => ?_)
  refine lv_iload_n C.hx C.hb dL_most_127 rfl (lv_at hl 0 rfl) ?_
  refine lv_bipush (v := nI 24) C.hx C.hb dL_most_128 (by decide +kernel) ?_
  refine lv_icmp_ge (tgt := 140) C.hx C.hb dL_most_130 (by decide) (fun c9 => absurd c9 (by decide +kernel)) (fun _ => ?_)
  refine lv_bipush (v := nI 16) C.hx C.hb dL_most_133 (by decide +kernel) ?_
  refine lv_iload_n C.hx C.hb dL_most_135 rfl (lv_at hl 0 rfl) ?_
  refine lv_iadd C.hx C.hb dL_most_136 ?_
  refine q_top (y := nI 22) (by decide +kernel) ?_
  refine lv_goto (tgt := 142) C.hx C.hb dL_most_137 (by decide) ?_
  refine lv_icmp_eq (tgt := 147) C.hx C.hb dL_most_142 (by decide) (fun _ => ?_) (fun c9 => absurd c9 (by decide +kernel))
  refine lv_iinc (v := nI 7) (lv' := [(1, .int (nI 7)), (0, .ref (ad 70))]) C.hx C.hb dL_most_147 hl (k := 0) rfl (by decide +kernel) (by decide) rfl (fun ls hl => ?_)
  refine lv_goto (tgt := 102) C.hx C.hb dL_most_150 (by decide) ?_
  refine lv_iload_n C.hx C.hb dL_most_102 rfl (lv_at hl 0 rfl) ?_
  refine lv_bipush (v := nI 25) C.hx C.hb dL_most_103 (by decide +kernel) ?_
  refine lv_icmp_ge (tgt := 153) C.hx C.hb dL_most_105 (by decide) (fun c9 => absurd c9 (by decide +kernel)) (fun _ => ?_)
  refine lv_aload_n C.hx C.hb dL_most_108 rfl (lv_at hl 1 rfl) ?_
  refine lv_iconst (v := nI 0) C.hx C.hb dL_most_109 (by decide +kernel) ?_
  refine lv_iconst (v := nI 1) C.hx C.hb dL_most_110 (by decide +kernel) ?_
  refine q_cO (L := S107) (L' := S108) (As := [.int (nI 0), .int (nI 1)]) C hs hP hD hS (cs_join S108 0 1 0 (by decide +kernel)) k_X5_join kl_L_51 rfl hl rfl rfl (Nat.le_of_ble_eq_true rfl) ⟨⟨rfl, rfl⟩, Nat.le_of_ble_eq_true rfl, Nat.le_of_ble_eq_true rfl⟩ ⟨Nat.le_of_ble_eq_true rfl, Nat.le_of_ble_eq_true rfl⟩ dL_most_111 (fun g z H locs hs hP hD hS => ?_)
  refine lv_if_ne (tgt := 145) C.hx C.hb dL_most_114 (by decide) (fun c9 => absurd c9 (by decide +kernel)) (fun _ => ?_)
  exact kk g z H locs ls hs hP hD hS hl

set_option maxRecDepth 100000 in
set_option maxHeartbeats 4000000 in
theorem tr_most_21 {p : Program} {l : Launch} {e : Env} {s : State} {m : MethodId} {args : Array Value} {below : List Frame} {meth : Method} {c : Code} {D : va_G} {cA : ClassId} {A : Nat → Prop} {ad : Nat → Nat} {Q : State → Prop} (C : lcx p l s m c cL_most 2 D cA A) (kk : ∀ (g : Nat → Nat → Int32) (z : Nat → Nat) (H : Heap) (locs : List Loc) (ls : Array Slot), isL S113 g z → va_P D vwCl (rlW cA ad g z) H → va_D A (rlW cA ad g z) → va_S A s.heap H locs → lv_has ls 2 [(1, .int (nI 9)), (0, .ref (ad 70))] → W p l e rm_Lmost s m args below meth c H locs 134 1381 Q (F0 m 147 ls [])) : ∀ (g : Nat → Nat → Int32) (z : Nat → Nat) (H : Heap) (locs : List Loc) (ls : Array Slot), isL S108 g z → va_P D vwCl (rlW cA ad g z) H → va_D A (rlW cA ad g z) → va_S A s.heap H locs → lv_has ls 2 [(1, .int (nI 7)), (0, .ref (ad 70))] → W p l e rm_Lmost s m args below meth c H locs 131 1363 Q (F0 m 117 ls []) := by
  intro g z H locs ls hs hP hD hS hl
  refine lv_aload_n C.hx C.hb dL_most_117 rfl (lv_at hl 1 rfl) ?_
  refine lv_bipush (v := nI 13) C.hx C.hb dL_most_118 (by decide +kernel) ?_
  refine lv_iconst (v := nI 1) C.hx C.hb dL_most_120 (by decide +kernel) ?_
  refine lv_iconst (v := nI 0) C.hx C.hb dL_most_121 (by decide +kernel) ?_
  refine lv_iconst (v := nI 0) C.hx C.hb dL_most_122 (by decide +kernel) ?_
  refine lv_iconst (v := nI 0) C.hx C.hb dL_most_123 (by decide +kernel) ?_
  refine q_cA (L := S108) (L' := S109) (r := nI 23) (c2 := 132) (s2 := 1369) (As := [.int (nI 13), .int (nI 1), .int (nI 0), .int (nI 0), .int (nI 0)]) C hs hP hD hS (ca_split (nI 1) (nI 0) (nI 0) (nI 0) (nI 23) (cs_split S109 1 23 (by decide +kernel))) kl_L_102 hl rfl rfl (Nat.le_of_ble_eq_true rfl) ⟨Nat.le_of_ble_eq_true rfl, Nat.le_of_ble_eq_true rfl⟩ ⟨Nat.le_of_ble_eq_true rfl, Nat.le_of_ble_eq_true rfl⟩ ⟨Nat.le_of_ble_eq_true rfl, Nat.le_of_ble_eq_true rfl⟩ dL_most_124 (fun g z H locs hs hP hD hS => ?_)
  refine lv_iload_n C.hx C.hb dL_most_127 rfl (lv_at hl 0 rfl) ?_
  refine lv_bipush (v := nI 24) C.hx C.hb dL_most_128 (by decide +kernel) ?_
  refine lv_icmp_ge (tgt := 140) C.hx C.hb dL_most_130 (by decide) (fun c9 => absurd c9 (by decide +kernel)) (fun _ => ?_)
  refine lv_bipush (v := nI 16) C.hx C.hb dL_most_133 (by decide +kernel) ?_
  refine lv_iload_n C.hx C.hb dL_most_135 rfl (lv_at hl 0 rfl) ?_
  refine lv_iadd C.hx C.hb dL_most_136 ?_
  refine q_top (y := nI 23) (by decide +kernel) ?_
  refine lv_goto (tgt := 142) C.hx C.hb dL_most_137 (by decide) ?_
  refine lv_icmp_eq (tgt := 147) C.hx C.hb dL_most_142 (by decide) (fun _ => ?_) (fun c9 => absurd c9 (by decide +kernel))
  refine lv_iinc (v := nI 8) (lv' := [(1, .int (nI 8)), (0, .ref (ad 70))]) C.hx C.hb dL_most_147 hl (k := 0) rfl (by decide +kernel) (by decide) rfl (fun ls hl => ?_)
  refine lv_goto (tgt := 102) C.hx C.hb dL_most_150 (by decide) ?_
  refine lv_iload_n C.hx C.hb dL_most_102 rfl (lv_at hl 0 rfl) ?_
  refine lv_bipush (v := nI 25) C.hx C.hb dL_most_103 (by decide +kernel) ?_
  refine lv_icmp_ge (tgt := 153) C.hx C.hb dL_most_105 (by decide) (fun c9 => absurd c9 (by decide +kernel)) (fun _ => ?_)
  refine lv_aload_n C.hx C.hb dL_most_108 rfl (lv_at hl 1 rfl) ?_
  refine lv_iconst (v := nI 0) C.hx C.hb dL_most_109 (by decide +kernel) ?_
  refine lv_iconst (v := nI 1) C.hx C.hb dL_most_110 (by decide +kernel) ?_
  refine q_cO (L := S109) (L' := S110) (As := [.int (nI 0), .int (nI 1)]) C hs hP hD hS (cs_join S110 0 1 0 (by decide +kernel)) k_X5_join kl_L_51 rfl hl rfl rfl (Nat.le_of_ble_eq_true rfl) ⟨⟨rfl, rfl⟩, Nat.le_of_ble_eq_true rfl, Nat.le_of_ble_eq_true rfl⟩ ⟨Nat.le_of_ble_eq_true rfl, Nat.le_of_ble_eq_true rfl⟩ dL_most_111 (fun g z H locs hs hP hD hS => ?_)
  refine lv_if_ne (tgt := 145) C.hx C.hb dL_most_114 (by decide) (fun c9 => absurd c9 (by decide +kernel)) (fun _ => ?_)
  refine lv_aload_n C.hx C.hb dL_most_117 rfl (lv_at hl 1 rfl) ?_
  refine lv_bipush (v := nI 13) C.hx C.hb dL_most_118 (by decide +kernel) ?_
  refine lv_iconst (v := nI 1) C.hx C.hb dL_most_120 (by decide +kernel) ?_
  refine lv_iconst (v := nI 0) C.hx C.hb dL_most_121 (by decide +kernel) ?_
  refine lv_iconst (v := nI 0) C.hx C.hb dL_most_122 (by decide +kernel) ?_
  refine lv_iconst (v := nI 0) C.hx C.hb dL_most_123 (by decide +kernel) ?_
  refine q_cA (L := S110) (L' := S111) (r := nI 24) (c2 := 133) (s2 := 1375) (As := [.int (nI 13), .int (nI 1), .int (nI 0), .int (nI 0), .int (nI 0)]) C hs hP hD hS (ca_split (nI 1) (nI 0) (nI 0) (nI 0) (nI 24) (cs_split S111 1 24 (by decide +kernel))) kl_L_102 hl rfl rfl (Nat.le_of_ble_eq_true rfl) ⟨Nat.le_of_ble_eq_true rfl, Nat.le_of_ble_eq_true rfl⟩ ⟨Nat.le_of_ble_eq_true rfl, Nat.le_of_ble_eq_true rfl⟩ ⟨Nat.le_of_ble_eq_true rfl, Nat.le_of_ble_eq_true rfl⟩ dL_most_124 (fun g z H locs hs hP hD hS => ?_)
  refine lv_iload_n C.hx C.hb dL_most_127 rfl (lv_at hl 0 rfl) ?_
  refine lv_bipush (v := nI 24) C.hx C.hb dL_most_128 (by decide +kernel) ?_
  refine lv_icmp_ge (tgt := 140) C.hx C.hb dL_most_130 (by decide) (fun c9 => absurd c9 (by decide +kernel)) (fun _ => ?_)
  refine lv_bipush (v := nI 16) C.hx C.hb dL_most_133 (by decide +kernel) ?_
  refine lv_iload_n C.hx C.hb dL_most_135 rfl (lv_at hl 0 rfl) ?_
  refine lv_iadd C.hx C.hb dL_most_136 ?_
  refine q_top (y := nI 24) (by decide +kernel) ?_
  refine lv_goto (tgt := 142) C.hx C.hb dL_most_137 (by decide) ?_
  refine lv_icmp_eq (tgt := 147) C.hx C.hb dL_most_142 (by decide) (fun _ => ?_) (fun c9 => absurd c9 (by decide +kernel))
  refine lv_iinc (v := nI 9) (lv' := [(1, .int (nI 9)), (0, .ref (ad 70))]) C.hx C.hb dL_most_147 hl (k := 0) rfl (by decide +kernel) (by decide) rfl (fun ls hl => ?_)
  refine lv_goto (tgt := 102) C.hx C.hb dL_most_150 (by decide) ?_
  refine lv_iload_n C.hx C.hb dL_most_102 rfl (lv_at hl 0 rfl) ?_
  refine lv_bipush (v := nI 25) C.hx C.hb dL_most_103 (by decide +kernel) ?_
  refine lv_icmp_ge (tgt := 153) C.hx C.hb dL_most_105 (by decide) (fun c9 => absurd c9 (by decide +kernel)) (fun _ => ?_)
  refine lv_aload_n C.hx C.hb dL_most_108 rfl (lv_at hl 1 rfl) ?_
  refine lv_iconst (v := nI 0) C.hx C.hb dL_most_109 (by decide +kernel) ?_
  refine lv_iconst (v := nI 1) C.hx C.hb dL_most_110 (by decide +kernel) ?_
  refine q_cO (L := S111) (L' := S112) (As := [.int (nI 0), .int (nI 1)]) C hs hP hD hS (cs_join S112 0 1 0 (by decide +kernel)) k_X5_join kl_L_51 rfl hl rfl rfl (Nat.le_of_ble_eq_true rfl) ⟨⟨rfl, rfl⟩, Nat.le_of_ble_eq_true rfl, Nat.le_of_ble_eq_true rfl⟩ ⟨Nat.le_of_ble_eq_true rfl, Nat.le_of_ble_eq_true rfl⟩ dL_most_111 (fun g z H locs hs hP hD hS => ?_)
  refine lv_if_ne (tgt := 145) C.hx C.hb dL_most_114 (by decide) (fun c9 => absurd c9 (by decide +kernel)) (fun _ => ?_)
  refine lv_aload_n C.hx C.hb dL_most_117 rfl (lv_at hl 1 rfl) ?_
  refine lv_bipush (v := nI 13) C.hx C.hb dL_most_118 (by decide +kernel) ?_
  refine lv_iconst (v := nI 1) C.hx C.hb dL_most_120 (by decide +kernel) ?_
  refine lv_iconst (v := nI 0) C.hx C.hb dL_most_121 (by decide +kernel) ?_
  refine lv_iconst (v := nI 0) C.hx C.hb dL_most_122 (by decide +kernel) ?_
  refine lv_iconst (v := nI 0) C.hx C.hb dL_most_123 (by decide +kernel) ?_
  refine q_cA (L := S112) (L' := S113) (r := nI 25) (c2 := 134) (s2 := 1381) (As := [.int (nI 13), .int (nI 1), .int (nI 0), .int (nI 0), .int (nI 0)]) C hs hP hD hS (ca_split (nI 1) (nI 0) (nI 0) (nI 0) (nI 25) (cs_split S113 1 25 (by decide +kernel))) kl_L_102 hl rfl rfl (Nat.le_of_ble_eq_true rfl) ⟨Nat.le_of_ble_eq_true rfl, Nat.le_of_ble_eq_true rfl⟩ ⟨Nat.le_of_ble_eq_true rfl, Nat.le_of_ble_eq_true rfl⟩ ⟨Nat.le_of_ble_eq_true rfl, Nat.le_of_ble_eq_true rfl⟩ dL_most_124 (fun g z H locs hs hP hD hS => ?_)
  refine lv_iload_n C.hx C.hb dL_most_127 rfl (lv_at hl 0 rfl) ?_
  refine lv_bipush (v := nI 24) C.hx C.hb dL_most_128 (by decide +kernel) ?_
  refine lv_icmp_ge (tgt := 140) C.hx C.hb dL_most_130 (by decide) (fun c9 => absurd c9 (by decide +kernel)) (fun _ => ?_)
  refine lv_bipush (v := nI 16) C.hx C.hb dL_most_133 (by decide +kernel) ?_
  refine lv_iload_n C.hx C.hb dL_most_135 rfl (lv_at hl 0 rfl) ?_
  refine lv_iadd C.hx C.hb dL_most_136 ?_
  refine q_top (y := nI 25) (by decide +kernel) ?_
  refine lv_goto (tgt := 142) C.hx C.hb dL_most_137 (by decide) ?_
  refine lv_icmp_eq (tgt := 147) C.hx C.hb dL_most_142 (by decide) (fun _ => ?_) (fun c9 => absurd c9 (by decide +kernel))
  exact kk g z H locs ls hs hP hD hS hl

set_option maxRecDepth 100000 in
set_option maxHeartbeats 4000000 in
theorem tr_most_22 {p : Program} {l : Launch} {e : Env} {s : State} {m : MethodId} {args : Array Value} {below : List Frame} {meth : Method} {c : Code} {D : va_G} {cA : ClassId} {A : Nat → Prop} {ad : Nat → Nat} {Q : State → Prop} (C : lcx p l s m c cL_most 2 D cA A) (kk : ∀ (g : Nat → Nat → Int32) (z : Nat → Nat) (H : Heap) (locs : List Loc) (ls : Array Slot), isL S118 g z → va_P D vwCl (rlW cA ad g z) H → va_D A (rlW cA ad g z) → va_S A s.heap H locs → lv_has ls 2 [(1, .int (nI 12)), (0, .ref (ad 70))] → W p l e rm_Lmost s m args below meth c H locs 136 1393 Q (F0 m 117 ls [])) : ∀ (g : Nat → Nat → Int32) (z : Nat → Nat) (H : Heap) (locs : List Loc) (ls : Array Slot), isL S113 g z → va_P D vwCl (rlW cA ad g z) H → va_D A (rlW cA ad g z) → va_S A s.heap H locs → lv_has ls 2 [(1, .int (nI 9)), (0, .ref (ad 70))] → W p l e rm_Lmost s m args below meth c H locs 134 1381 Q (F0 m 147 ls []) := by
  intro g z H locs ls hs hP hD hS hl
  refine lv_iinc (v := nI 10) (lv' := [(1, .int (nI 10)), (0, .ref (ad 70))]) C.hx C.hb dL_most_147 hl (k := 0) rfl (by decide +kernel) (by decide) rfl (fun ls hl => ?_)
  refine lv_goto (tgt := 102) C.hx C.hb dL_most_150 (by decide) ?_
  refine lv_iload_n C.hx C.hb dL_most_102 rfl (lv_at hl 0 rfl) ?_
  refine lv_bipush (v := nI 25) C.hx C.hb dL_most_103 (by decide +kernel) ?_
  refine lv_icmp_ge (tgt := 153) C.hx C.hb dL_most_105 (by decide) (fun c9 => absurd c9 (by decide +kernel)) (fun _ => ?_)
  refine lv_aload_n C.hx C.hb dL_most_108 rfl (lv_at hl 1 rfl) ?_
  refine lv_iconst (v := nI 0) C.hx C.hb dL_most_109 (by decide +kernel) ?_
  refine lv_iconst (v := nI 1) C.hx C.hb dL_most_110 (by decide +kernel) ?_
  refine q_cO (L := S113) (L' := S114) (As := [.int (nI 0), .int (nI 1)]) C hs hP hD hS (cs_join S114 0 1 0 (by decide +kernel)) k_X5_join kl_L_51 rfl hl rfl rfl (Nat.le_of_ble_eq_true rfl) ⟨⟨rfl, rfl⟩, Nat.le_of_ble_eq_true rfl, Nat.le_of_ble_eq_true rfl⟩ ⟨Nat.le_of_ble_eq_true rfl, Nat.le_of_ble_eq_true rfl⟩ dL_most_111 (fun g z H locs hs hP hD hS => ?_)
  refine lv_if_ne (tgt := 145) C.hx C.hb dL_most_114 (by decide) (fun c9 => absurd c9 (by decide +kernel)) (fun _ => ?_)
  refine lv_aload_n C.hx C.hb dL_most_117 rfl (lv_at hl 1 rfl) ?_
  refine lv_bipush (v := nI 13) C.hx C.hb dL_most_118 (by decide +kernel) ?_
  refine lv_iconst (v := nI 1) C.hx C.hb dL_most_120 (by decide +kernel) ?_
  refine lv_iconst (v := nI 0) C.hx C.hb dL_most_121 (by decide +kernel) ?_
  refine lv_iconst (v := nI 0) C.hx C.hb dL_most_122 (by decide +kernel) ?_
  refine lv_iconst (v := nI 0) C.hx C.hb dL_most_123 (by decide +kernel) ?_
  refine q_cA (L := S114) (L' := S115) (r := nI 26) (c2 := 135) (s2 := 1387) (As := [.int (nI 13), .int (nI 1), .int (nI 0), .int (nI 0), .int (nI 0)]) C hs hP hD hS (ca_split (nI 1) (nI 0) (nI 0) (nI 0) (nI 26) (cs_split S115 1 26 (by decide +kernel))) kl_L_102 hl rfl rfl (Nat.le_of_ble_eq_true rfl) ⟨Nat.le_of_ble_eq_true rfl, Nat.le_of_ble_eq_true rfl⟩ ⟨Nat.le_of_ble_eq_true rfl, Nat.le_of_ble_eq_true rfl⟩ ⟨Nat.le_of_ble_eq_true rfl, Nat.le_of_ble_eq_true rfl⟩ dL_most_124 (fun g z H locs hs hP hD hS => ?_)
  refine lv_iload_n C.hx C.hb dL_most_127 rfl (lv_at hl 0 rfl) ?_
  refine lv_bipush (v := nI 24) C.hx C.hb dL_most_128 (by decide +kernel) ?_
  refine lv_icmp_ge (tgt := 140) C.hx C.hb dL_most_130 (by decide) (fun c9 => absurd c9 (by decide +kernel)) (fun _ => ?_)
  refine lv_bipush (v := nI 16) C.hx C.hb dL_most_133 (by decide +kernel) ?_
  refine lv_iload_n C.hx C.hb dL_most_135 rfl (lv_at hl 0 rfl) ?_
  refine lv_iadd C.hx C.hb dL_most_136 ?_
  refine q_top (y := nI 26) (by decide +kernel) ?_
  refine lv_goto (tgt := 142) C.hx C.hb dL_most_137 (by decide) ?_
  refine lv_icmp_eq (tgt := 147) C.hx C.hb dL_most_142 (by decide) (fun _ => ?_) (fun c9 => absurd c9 (by decide +kernel))
  refine lv_iinc (v := nI 11) (lv' := [(1, .int (nI 11)), (0, .ref (ad 70))]) C.hx C.hb dL_most_147 hl (k := 0) rfl (by decide +kernel) (by decide) rfl (fun ls hl => ?_)
  refine lv_goto (tgt := 102) C.hx C.hb dL_most_150 (by decide) ?_
  refine lv_iload_n C.hx C.hb dL_most_102 rfl (lv_at hl 0 rfl) ?_
  refine lv_bipush (v := nI 25) C.hx C.hb dL_most_103 (by decide +kernel) ?_
  refine lv_icmp_ge (tgt := 153) C.hx C.hb dL_most_105 (by decide) (fun c9 => absurd c9 (by decide +kernel)) (fun _ => ?_)
  refine lv_aload_n C.hx C.hb dL_most_108 rfl (lv_at hl 1 rfl) ?_
  refine lv_iconst (v := nI 0) C.hx C.hb dL_most_109 (by decide +kernel) ?_
  refine lv_iconst (v := nI 1) C.hx C.hb dL_most_110 (by decide +kernel) ?_
  refine q_cO (L := S115) (L' := S116) (As := [.int (nI 0), .int (nI 1)]) C hs hP hD hS (cs_join S116 0 1 0 (by decide +kernel)) k_X5_join kl_L_51 rfl hl rfl rfl (Nat.le_of_ble_eq_true rfl) ⟨⟨rfl, rfl⟩, Nat.le_of_ble_eq_true rfl, Nat.le_of_ble_eq_true rfl⟩ ⟨Nat.le_of_ble_eq_true rfl, Nat.le_of_ble_eq_true rfl⟩ dL_most_111 (fun g z H locs hs hP hD hS => ?_)
  refine lv_if_ne (tgt := 145) C.hx C.hb dL_most_114 (by decide) (fun c9 => absurd c9 (by decide +kernel)) (fun _ => ?_)
  refine lv_aload_n C.hx C.hb dL_most_117 rfl (lv_at hl 1 rfl) ?_
  refine lv_bipush (v := nI 13) C.hx C.hb dL_most_118 (by decide +kernel) ?_
  refine lv_iconst (v := nI 1) C.hx C.hb dL_most_120 (by decide +kernel) ?_
  refine lv_iconst (v := nI 0) C.hx C.hb dL_most_121 (by decide +kernel) ?_
  refine lv_iconst (v := nI 0) C.hx C.hb dL_most_122 (by decide +kernel) ?_
  refine lv_iconst (v := nI 0) C.hx C.hb dL_most_123 (by decide +kernel) ?_
  refine q_cA (L := S116) (L' := S117) (r := nI 27) (c2 := 136) (s2 := 1393) (As := [.int (nI 13), .int (nI 1), .int (nI 0), .int (nI 0), .int (nI 0)]) C hs hP hD hS (ca_split (nI 1) (nI 0) (nI 0) (nI 0) (nI 27) (cs_split S117 1 27 (by decide +kernel))) kl_L_102 hl rfl rfl (Nat.le_of_ble_eq_true rfl) ⟨Nat.le_of_ble_eq_true rfl, Nat.le_of_ble_eq_true rfl⟩ ⟨Nat.le_of_ble_eq_true rfl, Nat.le_of_ble_eq_true rfl⟩ ⟨Nat.le_of_ble_eq_true rfl, Nat.le_of_ble_eq_true rfl⟩ dL_most_124 (fun g z H locs hs hP hD hS => ?_)
  refine lv_iload_n C.hx C.hb dL_most_127 rfl (lv_at hl 0 rfl) ?_
  refine lv_bipush (v := nI 24) C.hx C.hb dL_most_128 (by decide +kernel) ?_
  refine lv_icmp_ge (tgt := 140) C.hx C.hb dL_most_130 (by decide) (fun c9 => absurd c9 (by decide +kernel)) (fun _ => ?_)
  refine lv_bipush (v := nI 16) C.hx C.hb dL_most_133 (by decide +kernel) ?_
  refine lv_iload_n C.hx C.hb dL_most_135 rfl (lv_at hl 0 rfl) ?_
  refine lv_iadd C.hx C.hb dL_most_136 ?_
  refine q_top (y := nI 27) (by decide +kernel) ?_
  refine lv_goto (tgt := 142) C.hx C.hb dL_most_137 (by decide) ?_
  refine lv_icmp_eq (tgt := 147) C.hx C.hb dL_most_142 (by decide) (fun _ => ?_) (fun c9 => absurd c9 (by decide +kernel))
  refine lv_iinc (v := nI 12) (lv' := [(1, .int (nI 12)), (0, .ref (ad 70))]) C.hx C.hb dL_most_147 hl (k := 0) rfl (by decide +kernel) (by decide) rfl (fun ls hl => ?_)
  refine lv_goto (tgt := 102) C.hx C.hb dL_most_150 (by decide) ?_
  refine lv_iload_n C.hx C.hb dL_most_102 rfl (lv_at hl 0 rfl) ?_
  refine lv_bipush (v := nI 25) C.hx C.hb dL_most_103 (by decide +kernel) ?_
  refine lv_icmp_ge (tgt := 153) C.hx C.hb dL_most_105 (by decide) (fun c9 => absurd c9 (by decide +kernel)) (fun _ => ?_)
  refine lv_aload_n C.hx C.hb dL_most_108 rfl (lv_at hl 1 rfl) ?_
  refine lv_iconst (v := nI 0) C.hx C.hb dL_most_109 (by decide +kernel) ?_
  refine lv_iconst (v := nI 1) C.hx C.hb dL_most_110 (by decide +kernel) ?_
  refine q_cO (L := S117) (L' := S118) (As := [.int (nI 0), .int (nI 1)]) C hs hP hD hS (cs_join S118 0 1 0 (by decide +kernel)) k_X5_join kl_L_51 rfl hl rfl rfl (Nat.le_of_ble_eq_true rfl) ⟨⟨rfl, rfl⟩, Nat.le_of_ble_eq_true rfl, Nat.le_of_ble_eq_true rfl⟩ ⟨Nat.le_of_ble_eq_true rfl, Nat.le_of_ble_eq_true rfl⟩ dL_most_111 (fun g z H locs hs hP hD hS => ?_)
  refine lv_if_ne (tgt := 145) C.hx C.hb dL_most_114 (by decide) (fun c9 => absurd c9 (by decide +kernel)) (fun _ => ?_)
  exact kk g z H locs ls hs hP hD hS hl

set_option maxRecDepth 100000 in
set_option maxHeartbeats 4000000 in
theorem tr_most_23 {p : Program} {l : Launch} {e : Env} {s : State} {m : MethodId} {args : Array Value} {below : List Frame} {meth : Method} {c : Code} {D : va_G} {cA : ClassId} {A : Nat → Prop} {ad : Nat → Nat} {Q : State → Prop} (C : lcx p l s m c cL_most 2 D cA A) (kk : ∀ (g : Nat → Nat → Int32) (z : Nat → Nat) (H : Heap) (locs : List Loc) (ls : Array Slot), isL S123 g z → va_P D vwCl (rlW cA ad g z) H → va_D A (rlW cA ad g z) → va_S A s.heap H locs → lv_has ls 2 [(1, .int (nI 14)), (0, .ref (ad 70))] → W p l e rm_Lmost s m args below meth c H locs 139 1411 Q (F0 m 147 ls [])) : ∀ (g : Nat → Nat → Int32) (z : Nat → Nat) (H : Heap) (locs : List Loc) (ls : Array Slot), isL S118 g z → va_P D vwCl (rlW cA ad g z) H → va_D A (rlW cA ad g z) → va_S A s.heap H locs → lv_has ls 2 [(1, .int (nI 12)), (0, .ref (ad 70))] → W p l e rm_Lmost s m args below meth c H locs 136 1393 Q (F0 m 117 ls []) := by
  intro g z H locs ls hs hP hD hS hl
  refine lv_aload_n C.hx C.hb dL_most_117 rfl (lv_at hl 1 rfl) ?_
  refine lv_bipush (v := nI 13) C.hx C.hb dL_most_118 (by decide +kernel) ?_
  refine lv_iconst (v := nI 1) C.hx C.hb dL_most_120 (by decide +kernel) ?_
  refine lv_iconst (v := nI 0) C.hx C.hb dL_most_121 (by decide +kernel) ?_
  refine lv_iconst (v := nI 0) C.hx C.hb dL_most_122 (by decide +kernel) ?_
  refine lv_iconst (v := nI 0) C.hx C.hb dL_most_123 (by decide +kernel) ?_
  refine q_cA (L := S118) (L' := S119) (r := nI 28) (c2 := 137) (s2 := 1399) (As := [.int (nI 13), .int (nI 1), .int (nI 0), .int (nI 0), .int (nI 0)]) C hs hP hD hS (ca_split (nI 1) (nI 0) (nI 0) (nI 0) (nI 28) (cs_split S119 1 28 (by decide +kernel))) kl_L_102 hl rfl rfl (Nat.le_of_ble_eq_true rfl) ⟨Nat.le_of_ble_eq_true rfl, Nat.le_of_ble_eq_true rfl⟩ ⟨Nat.le_of_ble_eq_true rfl, Nat.le_of_ble_eq_true rfl⟩ ⟨Nat.le_of_ble_eq_true rfl, Nat.le_of_ble_eq_true rfl⟩ dL_most_124 (fun g z H locs hs hP hD hS => ?_)
  refine lv_iload_n C.hx C.hb dL_most_127 rfl (lv_at hl 0 rfl) ?_
  refine lv_bipush (v := nI 24) C.hx C.hb dL_most_128 (by decide +kernel) ?_
  refine lv_icmp_ge (tgt := 140) C.hx C.hb dL_most_130 (by decide) (fun c9 => absurd c9 (by decide +kernel)) (fun _ => ?_)
  refine lv_bipush (v := nI 16) C.hx C.hb dL_most_133 (by decide +kernel) ?_
  refine lv_iload_n C.hx C.hb dL_most_135 rfl (lv_at hl 0 rfl) ?_
  refine lv_iadd C.hx C.hb dL_most_136 ?_
  refine q_top (y := nI 28) (by decide +kernel) ?_
  refine lv_goto (tgt := 142) C.hx C.hb dL_most_137 (by decide) ?_
  refine lv_icmp_eq (tgt := 147) C.hx C.hb dL_most_142 (by decide) (fun _ => ?_) (fun c9 => absurd c9 (by decide +kernel))
  refine lv_iinc (v := nI 13) (lv' := [(1, .int (nI 13)), (0, .ref (ad 70))]) C.hx C.hb dL_most_147 hl (k := 0) rfl (by decide +kernel) (by decide) rfl (fun ls hl => ?_)
  refine lv_goto (tgt := 102) C.hx C.hb dL_most_150 (by decide) ?_
  refine lv_iload_n C.hx C.hb dL_most_102 rfl (lv_at hl 0 rfl) ?_
  refine lv_bipush (v := nI 25) C.hx C.hb dL_most_103 (by decide +kernel) ?_
  refine lv_icmp_ge (tgt := 153) C.hx C.hb dL_most_105 (by decide) (fun c9 => absurd c9 (by decide +kernel)) (fun _ => ?_)
  refine lv_aload_n C.hx C.hb dL_most_108 rfl (lv_at hl 1 rfl) ?_
  refine lv_iconst (v := nI 0) C.hx C.hb dL_most_109 (by decide +kernel) ?_
  refine lv_iconst (v := nI 1) C.hx C.hb dL_most_110 (by decide +kernel) ?_
  refine q_cO (L := S119) (L' := S120) (As := [.int (nI 0), .int (nI 1)]) C hs hP hD hS (cs_join S120 0 1 0 (by decide +kernel)) k_X5_join kl_L_51 rfl hl rfl rfl (Nat.le_of_ble_eq_true rfl) ⟨⟨rfl, rfl⟩, Nat.le_of_ble_eq_true rfl, Nat.le_of_ble_eq_true rfl⟩ ⟨Nat.le_of_ble_eq_true rfl, Nat.le_of_ble_eq_true rfl⟩ dL_most_111 (fun g z H locs hs hP hD hS => ?_)
  refine lv_if_ne (tgt := 145) C.hx C.hb dL_most_114 (by decide) (fun c9 => absurd c9 (by decide +kernel)) (fun _ => ?_)
  refine lv_aload_n C.hx C.hb dL_most_117 rfl (lv_at hl 1 rfl) ?_
  refine lv_bipush (v := nI 13) C.hx C.hb dL_most_118 (by decide +kernel) ?_
  refine lv_iconst (v := nI 1) C.hx C.hb dL_most_120 (by decide +kernel) ?_
  refine lv_iconst (v := nI 0) C.hx C.hb dL_most_121 (by decide +kernel) ?_
  refine lv_iconst (v := nI 0) C.hx C.hb dL_most_122 (by decide +kernel) ?_
  refine lv_iconst (v := nI 0) C.hx C.hb dL_most_123 (by decide +kernel) ?_
  refine q_cA (L := S120) (L' := S121) (r := nI 29) (c2 := 138) (s2 := 1405) (As := [.int (nI 13), .int (nI 1), .int (nI 0), .int (nI 0), .int (nI 0)]) C hs hP hD hS (ca_split (nI 1) (nI 0) (nI 0) (nI 0) (nI 29) (cs_split S121 1 29 (by decide +kernel))) kl_L_102 hl rfl rfl (Nat.le_of_ble_eq_true rfl) ⟨Nat.le_of_ble_eq_true rfl, Nat.le_of_ble_eq_true rfl⟩ ⟨Nat.le_of_ble_eq_true rfl, Nat.le_of_ble_eq_true rfl⟩ ⟨Nat.le_of_ble_eq_true rfl, Nat.le_of_ble_eq_true rfl⟩ dL_most_124 (fun g z H locs hs hP hD hS => ?_)
  refine lv_iload_n C.hx C.hb dL_most_127 rfl (lv_at hl 0 rfl) ?_
  refine lv_bipush (v := nI 24) C.hx C.hb dL_most_128 (by decide +kernel) ?_
  refine lv_icmp_ge (tgt := 140) C.hx C.hb dL_most_130 (by decide) (fun c9 => absurd c9 (by decide +kernel)) (fun _ => ?_)
  refine lv_bipush (v := nI 16) C.hx C.hb dL_most_133 (by decide +kernel) ?_
  refine lv_iload_n C.hx C.hb dL_most_135 rfl (lv_at hl 0 rfl) ?_
  refine lv_iadd C.hx C.hb dL_most_136 ?_
  refine q_top (y := nI 29) (by decide +kernel) ?_
  refine lv_goto (tgt := 142) C.hx C.hb dL_most_137 (by decide) ?_
  refine lv_icmp_eq (tgt := 147) C.hx C.hb dL_most_142 (by decide) (fun _ => ?_) (fun c9 => absurd c9 (by decide +kernel))
  refine lv_iinc (v := nI 14) (lv' := [(1, .int (nI 14)), (0, .ref (ad 70))]) C.hx C.hb dL_most_147 hl (k := 0) rfl (by decide +kernel) (by decide) rfl (fun ls hl => ?_)
  refine lv_goto (tgt := 102) C.hx C.hb dL_most_150 (by decide) ?_
  refine lv_iload_n C.hx C.hb dL_most_102 rfl (lv_at hl 0 rfl) ?_
  refine lv_bipush (v := nI 25) C.hx C.hb dL_most_103 (by decide +kernel) ?_
  refine lv_icmp_ge (tgt := 153) C.hx C.hb dL_most_105 (by decide) (fun c9 => absurd c9 (by decide +kernel)) (fun _ => ?_)
  refine lv_aload_n C.hx C.hb dL_most_108 rfl (lv_at hl 1 rfl) ?_
  refine lv_iconst (v := nI 0) C.hx C.hb dL_most_109 (by decide +kernel) ?_
  refine lv_iconst (v := nI 1) C.hx C.hb dL_most_110 (by decide +kernel) ?_
  refine q_cO (L := S121) (L' := S122) (As := [.int (nI 0), .int (nI 1)]) C hs hP hD hS (cs_join S122 0 1 0 (by decide +kernel)) k_X5_join kl_L_51 rfl hl rfl rfl (Nat.le_of_ble_eq_true rfl) ⟨⟨rfl, rfl⟩, Nat.le_of_ble_eq_true rfl, Nat.le_of_ble_eq_true rfl⟩ ⟨Nat.le_of_ble_eq_true rfl, Nat.le_of_ble_eq_true rfl⟩ dL_most_111 (fun g z H locs hs hP hD hS => ?_)
  refine lv_if_ne (tgt := 145) C.hx C.hb dL_most_114 (by decide) (fun c9 => absurd c9 (by decide +kernel)) (fun _ => ?_)
  refine lv_aload_n C.hx C.hb dL_most_117 rfl (lv_at hl 1 rfl) ?_
  refine lv_bipush (v := nI 13) C.hx C.hb dL_most_118 (by decide +kernel) ?_
  refine lv_iconst (v := nI 1) C.hx C.hb dL_most_120 (by decide +kernel) ?_
  refine lv_iconst (v := nI 0) C.hx C.hb dL_most_121 (by decide +kernel) ?_
  refine lv_iconst (v := nI 0) C.hx C.hb dL_most_122 (by decide +kernel) ?_
  refine lv_iconst (v := nI 0) C.hx C.hb dL_most_123 (by decide +kernel) ?_
  refine q_cA (L := S122) (L' := S123) (r := nI 30) (c2 := 139) (s2 := 1411) (As := [.int (nI 13), .int (nI 1), .int (nI 0), .int (nI 0), .int (nI 0)]) C hs hP hD hS (ca_split (nI 1) (nI 0) (nI 0) (nI 0) (nI 30) (cs_split S123 1 30 (by decide +kernel))) kl_L_102 hl rfl rfl (Nat.le_of_ble_eq_true rfl) ⟨Nat.le_of_ble_eq_true rfl, Nat.le_of_ble_eq_true rfl⟩ ⟨Nat.le_of_ble_eq_true rfl, Nat.le_of_ble_eq_true rfl⟩ ⟨Nat.le_of_ble_eq_true rfl, Nat.le_of_ble_eq_true rfl⟩ dL_most_124 (fun g z H locs hs hP hD hS => ?_)
  refine lv_iload_n C.hx C.hb dL_most_127 rfl (lv_at hl 0 rfl) ?_
  refine lv_bipush (v := nI 24) C.hx C.hb dL_most_128 (by decide +kernel) ?_
  refine lv_icmp_ge (tgt := 140) C.hx C.hb dL_most_130 (by decide) (fun c9 => absurd c9 (by decide +kernel)) (fun _ => ?_)
  refine lv_bipush (v := nI 16) C.hx C.hb dL_most_133 (by decide +kernel) ?_
  refine lv_iload_n C.hx C.hb dL_most_135 rfl (lv_at hl 0 rfl) ?_
  refine lv_iadd C.hx C.hb dL_most_136 ?_
  refine q_top (y := nI 30) (by decide +kernel) ?_
  refine lv_goto (tgt := 142) C.hx C.hb dL_most_137 (by decide) ?_
  refine lv_icmp_eq (tgt := 147) C.hx C.hb dL_most_142 (by decide) (fun _ => ?_) (fun c9 => absurd c9 (by decide +kernel))
  exact kk g z H locs ls hs hP hD hS hl

set_option maxRecDepth 100000 in
set_option maxHeartbeats 4000000 in
theorem tr_most_24 {p : Program} {l : Launch} {e : Env} {s : State} {m : MethodId} {args : Array Value} {below : List Frame} {meth : Method} {c : Code} {D : va_G} {cA : ClassId} {A : Nat → Prop} {ad : Nat → Nat} {Q : State → Prop} (C : lcx p l s m c cL_most 2 D cA A) (kk : ∀ (g : Nat → Nat → Int32) (z : Nat → Nat) (H : Heap) (locs : List Loc) (ls : Array Slot), isL S128 g z → va_P D vwCl (rlW cA ad g z) H → va_D A (rlW cA ad g z) → va_S A s.heap H locs → lv_has ls 2 [(1, .int (nI 17)), (0, .ref (ad 70))] → W p l e rm_Lmost s m args below meth c H locs 141 1423 Q (F0 m 117 ls [])) : ∀ (g : Nat → Nat → Int32) (z : Nat → Nat) (H : Heap) (locs : List Loc) (ls : Array Slot), isL S123 g z → va_P D vwCl (rlW cA ad g z) H → va_D A (rlW cA ad g z) → va_S A s.heap H locs → lv_has ls 2 [(1, .int (nI 14)), (0, .ref (ad 70))] → W p l e rm_Lmost s m args below meth c H locs 139 1411 Q (F0 m 147 ls []) := by
  intro g z H locs ls hs hP hD hS hl
  refine lv_iinc (v := nI 15) (lv' := [(1, .int (nI 15)), (0, .ref (ad 70))]) C.hx C.hb dL_most_147 hl (k := 0) rfl (by decide +kernel) (by decide) rfl (fun ls hl => ?_)
  refine lv_goto (tgt := 102) C.hx C.hb dL_most_150 (by decide) ?_
  refine lv_iload_n C.hx C.hb dL_most_102 rfl (lv_at hl 0 rfl) ?_
  refine lv_bipush (v := nI 25) C.hx C.hb dL_most_103 (by decide +kernel) ?_
  refine lv_icmp_ge (tgt := 153) C.hx C.hb dL_most_105 (by decide) (fun c9 => absurd c9 (by decide +kernel)) (fun _ => ?_)
  refine lv_aload_n C.hx C.hb dL_most_108 rfl (lv_at hl 1 rfl) ?_
  refine lv_iconst (v := nI 0) C.hx C.hb dL_most_109 (by decide +kernel) ?_
  refine lv_iconst (v := nI 1) C.hx C.hb dL_most_110 (by decide +kernel) ?_
  refine q_cO (L := S123) (L' := S124) (As := [.int (nI 0), .int (nI 1)]) C hs hP hD hS (cs_join S124 0 1 0 (by decide +kernel)) k_X5_join kl_L_51 rfl hl rfl rfl (Nat.le_of_ble_eq_true rfl) ⟨⟨rfl, rfl⟩, Nat.le_of_ble_eq_true rfl, Nat.le_of_ble_eq_true rfl⟩ ⟨Nat.le_of_ble_eq_true rfl, Nat.le_of_ble_eq_true rfl⟩ dL_most_111 (fun g z H locs hs hP hD hS => ?_)
  refine lv_if_ne (tgt := 145) C.hx C.hb dL_most_114 (by decide) (fun c9 => absurd c9 (by decide +kernel)) (fun _ => ?_)
  refine lv_aload_n C.hx C.hb dL_most_117 rfl (lv_at hl 1 rfl) ?_
  refine lv_bipush (v := nI 13) C.hx C.hb dL_most_118 (by decide +kernel) ?_
  refine lv_iconst (v := nI 1) C.hx C.hb dL_most_120 (by decide +kernel) ?_
  refine lv_iconst (v := nI 0) C.hx C.hb dL_most_121 (by decide +kernel) ?_
  refine lv_iconst (v := nI 0) C.hx C.hb dL_most_122 (by decide +kernel) ?_
  refine lv_iconst (v := nI 0) C.hx C.hb dL_most_123 (by decide +kernel) ?_
  refine q_cA (L := S124) (L' := S125) (r := nI 31) (c2 := 140) (s2 := 1417) (As := [.int (nI 13), .int (nI 1), .int (nI 0), .int (nI 0), .int (nI 0)]) C hs hP hD hS (ca_split (nI 1) (nI 0) (nI 0) (nI 0) (nI 31) (cs_split S125 1 31 (by decide +kernel))) kl_L_102 hl rfl rfl (Nat.le_of_ble_eq_true rfl) ⟨Nat.le_of_ble_eq_true rfl, Nat.le_of_ble_eq_true rfl⟩ ⟨Nat.le_of_ble_eq_true rfl, Nat.le_of_ble_eq_true rfl⟩ ⟨Nat.le_of_ble_eq_true rfl, Nat.le_of_ble_eq_true rfl⟩ dL_most_124 (fun g z H locs hs hP hD hS => ?_)
  refine lv_iload_n C.hx C.hb dL_most_127 rfl (lv_at hl 0 rfl) ?_
  refine lv_bipush (v := nI 24) C.hx C.hb dL_most_128 (by decide +kernel) ?_
  refine lv_icmp_ge (tgt := 140) C.hx C.hb dL_most_130 (by decide) (fun c9 => absurd c9 (by decide +kernel)) (fun _ => ?_)
  refine lv_bipush (v := nI 16) C.hx C.hb dL_most_133 (by decide +kernel) ?_
  refine lv_iload_n C.hx C.hb dL_most_135 rfl (lv_at hl 0 rfl) ?_
  refine lv_iadd C.hx C.hb dL_most_136 ?_
  refine q_top (y := nI 31) (by decide +kernel) ?_
  refine lv_goto (tgt := 142) C.hx C.hb dL_most_137 (by decide) ?_
  refine lv_icmp_eq (tgt := 147) C.hx C.hb dL_most_142 (by decide) (fun _ => ?_) (fun c9 => absurd c9 (by decide +kernel))
  refine lv_iinc (v := nI 16) (lv' := [(1, .int (nI 16)), (0, .ref (ad 70))]) C.hx C.hb dL_most_147 hl (k := 0) rfl (by decide +kernel) (by decide) rfl (fun ls hl => ?_)
  refine lv_goto (tgt := 102) C.hx C.hb dL_most_150 (by decide) ?_
  refine lv_iload_n C.hx C.hb dL_most_102 rfl (lv_at hl 0 rfl) ?_
  refine lv_bipush (v := nI 25) C.hx C.hb dL_most_103 (by decide +kernel) ?_
  refine lv_icmp_ge (tgt := 153) C.hx C.hb dL_most_105 (by decide) (fun c9 => absurd c9 (by decide +kernel)) (fun _ => ?_)
  refine lv_aload_n C.hx C.hb dL_most_108 rfl (lv_at hl 1 rfl) ?_
  refine lv_iconst (v := nI 0) C.hx C.hb dL_most_109 (by decide +kernel) ?_
  refine lv_iconst (v := nI 1) C.hx C.hb dL_most_110 (by decide +kernel) ?_
  refine q_cO (L := S125) (L' := S126) (As := [.int (nI 0), .int (nI 1)]) C hs hP hD hS (cs_join S126 0 1 0 (by decide +kernel)) k_X5_join kl_L_51 rfl hl rfl rfl (Nat.le_of_ble_eq_true rfl) ⟨⟨rfl, rfl⟩, Nat.le_of_ble_eq_true rfl, Nat.le_of_ble_eq_true rfl⟩ ⟨Nat.le_of_ble_eq_true rfl, Nat.le_of_ble_eq_true rfl⟩ dL_most_111 (fun g z H locs hs hP hD hS => ?_)
  refine lv_if_ne (tgt := 145) C.hx C.hb dL_most_114 (by decide) (fun c9 => absurd c9 (by decide +kernel)) (fun _ => ?_)
  refine lv_aload_n C.hx C.hb dL_most_117 rfl (lv_at hl 1 rfl) ?_
  refine lv_bipush (v := nI 13) C.hx C.hb dL_most_118 (by decide +kernel) ?_
  refine lv_iconst (v := nI 1) C.hx C.hb dL_most_120 (by decide +kernel) ?_
  refine lv_iconst (v := nI 0) C.hx C.hb dL_most_121 (by decide +kernel) ?_
  refine lv_iconst (v := nI 0) C.hx C.hb dL_most_122 (by decide +kernel) ?_
  refine lv_iconst (v := nI 0) C.hx C.hb dL_most_123 (by decide +kernel) ?_
  refine q_cA (L := S126) (L' := S127) (r := nI 32) (c2 := 141) (s2 := 1423) (As := [.int (nI 13), .int (nI 1), .int (nI 0), .int (nI 0), .int (nI 0)]) C hs hP hD hS (ca_split (nI 1) (nI 0) (nI 0) (nI 0) (nI 32) (cs_split S127 1 32 (by decide +kernel))) kl_L_102 hl rfl rfl (Nat.le_of_ble_eq_true rfl) ⟨Nat.le_of_ble_eq_true rfl, Nat.le_of_ble_eq_true rfl⟩ ⟨Nat.le_of_ble_eq_true rfl, Nat.le_of_ble_eq_true rfl⟩ ⟨Nat.le_of_ble_eq_true rfl, Nat.le_of_ble_eq_true rfl⟩ dL_most_124 (fun g z H locs hs hP hD hS => ?_)
  refine lv_iload_n C.hx C.hb dL_most_127 rfl (lv_at hl 0 rfl) ?_
  refine lv_bipush (v := nI 24) C.hx C.hb dL_most_128 (by decide +kernel) ?_
  refine lv_icmp_ge (tgt := 140) C.hx C.hb dL_most_130 (by decide) (fun c9 => absurd c9 (by decide +kernel)) (fun _ => ?_)
  refine lv_bipush (v := nI 16) C.hx C.hb dL_most_133 (by decide +kernel) ?_
  refine lv_iload_n C.hx C.hb dL_most_135 rfl (lv_at hl 0 rfl) ?_
  refine lv_iadd C.hx C.hb dL_most_136 ?_
  refine q_top (y := nI 32) (by decide +kernel) ?_
  refine lv_goto (tgt := 142) C.hx C.hb dL_most_137 (by decide) ?_
  refine lv_icmp_eq (tgt := 147) C.hx C.hb dL_most_142 (by decide) (fun _ => ?_) (fun c9 => absurd c9 (by decide +kernel))
  refine lv_iinc (v := nI 17) (lv' := [(1, .int (nI 17)), (0, .ref (ad 70))]) C.hx C.hb dL_most_147 hl (k := 0) rfl (by decide +kernel) (by decide) rfl (fun ls hl => ?_)
  refine lv_goto (tgt := 102) C.hx C.hb dL_most_150 (by decide) ?_
  refine lv_iload_n C.hx C.hb dL_most_102 rfl (lv_at hl 0 rfl) ?_
  refine lv_bipush (v := nI 25) C.hx C.hb dL_most_103 (by decide +kernel) ?_
  refine lv_icmp_ge (tgt := 153) C.hx C.hb dL_most_105 (by decide) (fun c9 => absurd c9 (by decide +kernel)) (fun _ => ?_)
  refine lv_aload_n C.hx C.hb dL_most_108 rfl (lv_at hl 1 rfl) ?_
  refine lv_iconst (v := nI 0) C.hx C.hb dL_most_109 (by decide +kernel) ?_
  refine lv_iconst (v := nI 1) C.hx C.hb dL_most_110 (by decide +kernel) ?_
  refine q_cO (L := S127) (L' := S128) (As := [.int (nI 0), .int (nI 1)]) C hs hP hD hS (cs_join S128 0 1 0 (by decide +kernel)) k_X5_join kl_L_51 rfl hl rfl rfl (Nat.le_of_ble_eq_true rfl) ⟨⟨rfl, rfl⟩, Nat.le_of_ble_eq_true rfl, Nat.le_of_ble_eq_true rfl⟩ ⟨Nat.le_of_ble_eq_true rfl, Nat.le_of_ble_eq_true rfl⟩ dL_most_111 (fun g z H locs hs hP hD hS => ?_)
  refine lv_if_ne (tgt := 145) C.hx C.hb dL_most_114 (by decide) (fun c9 => absurd c9 (by decide +kernel)) (fun _ => ?_)
  exact kk g z H locs ls hs hP hD hS hl

set_option maxRecDepth 100000 in
set_option maxHeartbeats 4000000 in
theorem tr_most_25 {p : Program} {l : Launch} {e : Env} {s : State} {m : MethodId} {args : Array Value} {below : List Frame} {meth : Method} {c : Code} {D : va_G} {cA : ClassId} {A : Nat → Prop} {ad : Nat → Nat} {Q : State → Prop} (C : lcx p l s m c cL_most 2 D cA A) (kk : ∀ (g : Nat → Nat → Int32) (z : Nat → Nat) (H : Heap) (locs : List Loc) (ls : Array Slot), isL S133 g z → va_P D vwCl (rlW cA ad g z) H → va_D A (rlW cA ad g z) → va_S A s.heap H locs → lv_has ls 2 [(1, .int (nI 19)), (0, .ref (ad 70))] → W p l e rm_Lmost s m args below meth c H locs 144 1441 Q (F0 m 147 ls [])) : ∀ (g : Nat → Nat → Int32) (z : Nat → Nat) (H : Heap) (locs : List Loc) (ls : Array Slot), isL S128 g z → va_P D vwCl (rlW cA ad g z) H → va_D A (rlW cA ad g z) → va_S A s.heap H locs → lv_has ls 2 [(1, .int (nI 17)), (0, .ref (ad 70))] → W p l e rm_Lmost s m args below meth c H locs 141 1423 Q (F0 m 117 ls []) := by
  intro g z H locs ls hs hP hD hS hl
  refine lv_aload_n C.hx C.hb dL_most_117 rfl (lv_at hl 1 rfl) ?_
  refine lv_bipush (v := nI 13) C.hx C.hb dL_most_118 (by decide +kernel) ?_
  refine lv_iconst (v := nI 1) C.hx C.hb dL_most_120 (by decide +kernel) ?_
  refine lv_iconst (v := nI 0) C.hx C.hb dL_most_121 (by decide +kernel) ?_
  refine lv_iconst (v := nI 0) C.hx C.hb dL_most_122 (by decide +kernel) ?_
  refine lv_iconst (v := nI 0) C.hx C.hb dL_most_123 (by decide +kernel) ?_
  refine q_cA (L := S128) (L' := S129) (r := nI 33) (c2 := 142) (s2 := 1429) (As := [.int (nI 13), .int (nI 1), .int (nI 0), .int (nI 0), .int (nI 0)]) C hs hP hD hS (ca_split (nI 1) (nI 0) (nI 0) (nI 0) (nI 33) (cs_split S129 1 33 (by decide +kernel))) kl_L_102 hl rfl rfl (Nat.le_of_ble_eq_true rfl) ⟨Nat.le_of_ble_eq_true rfl, Nat.le_of_ble_eq_true rfl⟩ ⟨Nat.le_of_ble_eq_true rfl, Nat.le_of_ble_eq_true rfl⟩ ⟨Nat.le_of_ble_eq_true rfl, Nat.le_of_ble_eq_true rfl⟩ dL_most_124 (fun g z H locs hs hP hD hS => ?_)
  refine lv_iload_n C.hx C.hb dL_most_127 rfl (lv_at hl 0 rfl) ?_
  refine lv_bipush (v := nI 24) C.hx C.hb dL_most_128 (by decide +kernel) ?_
  refine lv_icmp_ge (tgt := 140) C.hx C.hb dL_most_130 (by decide) (fun c9 => absurd c9 (by decide +kernel)) (fun _ => ?_)
  refine lv_bipush (v := nI 16) C.hx C.hb dL_most_133 (by decide +kernel) ?_
  refine lv_iload_n C.hx C.hb dL_most_135 rfl (lv_at hl 0 rfl) ?_
  refine lv_iadd C.hx C.hb dL_most_136 ?_
  refine q_top (y := nI 33) (by decide +kernel) ?_
  refine lv_goto (tgt := 142) C.hx C.hb dL_most_137 (by decide) ?_
  refine lv_icmp_eq (tgt := 147) C.hx C.hb dL_most_142 (by decide) (fun _ => ?_) (fun c9 => absurd c9 (by decide +kernel))
  refine lv_iinc (v := nI 18) (lv' := [(1, .int (nI 18)), (0, .ref (ad 70))]) C.hx C.hb dL_most_147 hl (k := 0) rfl (by decide +kernel) (by decide) rfl (fun ls hl => ?_)
  refine lv_goto (tgt := 102) C.hx C.hb dL_most_150 (by decide) ?_
  refine lv_iload_n C.hx C.hb dL_most_102 rfl (lv_at hl 0 rfl) ?_
  refine lv_bipush (v := nI 25) C.hx C.hb dL_most_103 (by decide +kernel) ?_
  refine lv_icmp_ge (tgt := 153) C.hx C.hb dL_most_105 (by decide) (fun c9 => absurd c9 (by decide +kernel)) (fun _ => ?_)
  refine lv_aload_n C.hx C.hb dL_most_108 rfl (lv_at hl 1 rfl) ?_
  refine lv_iconst (v := nI 0) C.hx C.hb dL_most_109 (by decide +kernel) ?_
  refine lv_iconst (v := nI 1) C.hx C.hb dL_most_110 (by decide +kernel) ?_
  refine q_cO (L := S129) (L' := S130) (As := [.int (nI 0), .int (nI 1)]) C hs hP hD hS (cs_join S130 0 1 0 (by decide +kernel)) k_X5_join kl_L_51 rfl hl rfl rfl (Nat.le_of_ble_eq_true rfl) ⟨⟨rfl, rfl⟩, Nat.le_of_ble_eq_true rfl, Nat.le_of_ble_eq_true rfl⟩ ⟨Nat.le_of_ble_eq_true rfl, Nat.le_of_ble_eq_true rfl⟩ dL_most_111 (fun g z H locs hs hP hD hS => ?_)
  refine lv_if_ne (tgt := 145) C.hx C.hb dL_most_114 (by decide) (fun c9 => absurd c9 (by decide +kernel)) (fun _ => ?_)
  refine lv_aload_n C.hx C.hb dL_most_117 rfl (lv_at hl 1 rfl) ?_
  refine lv_bipush (v := nI 13) C.hx C.hb dL_most_118 (by decide +kernel) ?_
  refine lv_iconst (v := nI 1) C.hx C.hb dL_most_120 (by decide +kernel) ?_
  refine lv_iconst (v := nI 0) C.hx C.hb dL_most_121 (by decide +kernel) ?_
  refine lv_iconst (v := nI 0) C.hx C.hb dL_most_122 (by decide +kernel) ?_
  refine lv_iconst (v := nI 0) C.hx C.hb dL_most_123 (by decide +kernel) ?_
  refine q_cA (L := S130) (L' := S131) (r := nI 34) (c2 := 143) (s2 := 1435) (As := [.int (nI 13), .int (nI 1), .int (nI 0), .int (nI 0), .int (nI 0)]) C hs hP hD hS (ca_split (nI 1) (nI 0) (nI 0) (nI 0) (nI 34) (cs_split S131 1 34 (by decide +kernel))) kl_L_102 hl rfl rfl (Nat.le_of_ble_eq_true rfl) ⟨Nat.le_of_ble_eq_true rfl, Nat.le_of_ble_eq_true rfl⟩ ⟨Nat.le_of_ble_eq_true rfl, Nat.le_of_ble_eq_true rfl⟩ ⟨Nat.le_of_ble_eq_true rfl, Nat.le_of_ble_eq_true rfl⟩ dL_most_124 (fun g z H locs hs hP hD hS => ?_)
  refine lv_iload_n C.hx C.hb dL_most_127 rfl (lv_at hl 0 rfl) ?_
  refine lv_bipush (v := nI 24) C.hx C.hb dL_most_128 (by decide +kernel) ?_
  refine lv_icmp_ge (tgt := 140) C.hx C.hb dL_most_130 (by decide) (fun c9 => absurd c9 (by decide +kernel)) (fun _ => ?_)
  refine lv_bipush (v := nI 16) C.hx C.hb dL_most_133 (by decide +kernel) ?_
  refine lv_iload_n C.hx C.hb dL_most_135 rfl (lv_at hl 0 rfl) ?_
  refine lv_iadd C.hx C.hb dL_most_136 ?_
  refine q_top (y := nI 34) (by decide +kernel) ?_
  refine lv_goto (tgt := 142) C.hx C.hb dL_most_137 (by decide) ?_
  refine lv_icmp_eq (tgt := 147) C.hx C.hb dL_most_142 (by decide) (fun _ => ?_) (fun c9 => absurd c9 (by decide +kernel))
  refine lv_iinc (v := nI 19) (lv' := [(1, .int (nI 19)), (0, .ref (ad 70))]) C.hx C.hb dL_most_147 hl (k := 0) rfl (by decide +kernel) (by decide) rfl (fun ls hl => ?_)
  refine lv_goto (tgt := 102) C.hx C.hb dL_most_150 (by decide) ?_
  refine lv_iload_n C.hx C.hb dL_most_102 rfl (lv_at hl 0 rfl) ?_
  refine lv_bipush (v := nI 25) C.hx C.hb dL_most_103 (by decide +kernel) ?_
  refine lv_icmp_ge (tgt := 153) C.hx C.hb dL_most_105 (by decide) (fun c9 => absurd c9 (by decide +kernel)) (fun _ => ?_)
  refine lv_aload_n C.hx C.hb dL_most_108 rfl (lv_at hl 1 rfl) ?_
  refine lv_iconst (v := nI 0) C.hx C.hb dL_most_109 (by decide +kernel) ?_
  refine lv_iconst (v := nI 1) C.hx C.hb dL_most_110 (by decide +kernel) ?_
  refine q_cO (L := S131) (L' := S132) (As := [.int (nI 0), .int (nI 1)]) C hs hP hD hS (cs_join S132 0 1 0 (by decide +kernel)) k_X5_join kl_L_51 rfl hl rfl rfl (Nat.le_of_ble_eq_true rfl) ⟨⟨rfl, rfl⟩, Nat.le_of_ble_eq_true rfl, Nat.le_of_ble_eq_true rfl⟩ ⟨Nat.le_of_ble_eq_true rfl, Nat.le_of_ble_eq_true rfl⟩ dL_most_111 (fun g z H locs hs hP hD hS => ?_)
  refine lv_if_ne (tgt := 145) C.hx C.hb dL_most_114 (by decide) (fun c9 => absurd c9 (by decide +kernel)) (fun _ => ?_)
  refine lv_aload_n C.hx C.hb dL_most_117 rfl (lv_at hl 1 rfl) ?_
  refine lv_bipush (v := nI 13) C.hx C.hb dL_most_118 (by decide +kernel) ?_
  refine lv_iconst (v := nI 1) C.hx C.hb dL_most_120 (by decide +kernel) ?_
  refine lv_iconst (v := nI 0) C.hx C.hb dL_most_121 (by decide +kernel) ?_
  refine lv_iconst (v := nI 0) C.hx C.hb dL_most_122 (by decide +kernel) ?_
  refine lv_iconst (v := nI 0) C.hx C.hb dL_most_123 (by decide +kernel) ?_
  refine q_cA (L := S132) (L' := S133) (r := nI 35) (c2 := 144) (s2 := 1441) (As := [.int (nI 13), .int (nI 1), .int (nI 0), .int (nI 0), .int (nI 0)]) C hs hP hD hS (ca_split (nI 1) (nI 0) (nI 0) (nI 0) (nI 35) (cs_split S133 1 35 (by decide +kernel))) kl_L_102 hl rfl rfl (Nat.le_of_ble_eq_true rfl) ⟨Nat.le_of_ble_eq_true rfl, Nat.le_of_ble_eq_true rfl⟩ ⟨Nat.le_of_ble_eq_true rfl, Nat.le_of_ble_eq_true rfl⟩ ⟨Nat.le_of_ble_eq_true rfl, Nat.le_of_ble_eq_true rfl⟩ dL_most_124 (fun g z H locs hs hP hD hS => ?_)
  refine lv_iload_n C.hx C.hb dL_most_127 rfl (lv_at hl 0 rfl) ?_
  refine lv_bipush (v := nI 24) C.hx C.hb dL_most_128 (by decide +kernel) ?_
  refine lv_icmp_ge (tgt := 140) C.hx C.hb dL_most_130 (by decide) (fun c9 => absurd c9 (by decide +kernel)) (fun _ => ?_)
  refine lv_bipush (v := nI 16) C.hx C.hb dL_most_133 (by decide +kernel) ?_
  refine lv_iload_n C.hx C.hb dL_most_135 rfl (lv_at hl 0 rfl) ?_
  refine lv_iadd C.hx C.hb dL_most_136 ?_
  refine q_top (y := nI 35) (by decide +kernel) ?_
  refine lv_goto (tgt := 142) C.hx C.hb dL_most_137 (by decide) ?_
  refine lv_icmp_eq (tgt := 147) C.hx C.hb dL_most_142 (by decide) (fun _ => ?_) (fun c9 => absurd c9 (by decide +kernel))
  exact kk g z H locs ls hs hP hD hS hl

set_option maxRecDepth 100000 in
set_option maxHeartbeats 4000000 in
theorem tr_most_26 {p : Program} {l : Launch} {e : Env} {s : State} {m : MethodId} {args : Array Value} {below : List Frame} {meth : Method} {c : Code} {D : va_G} {cA : ClassId} {A : Nat → Prop} {ad : Nat → Nat} {Q : State → Prop} (C : lcx p l s m c cL_most 2 D cA A) (kk : ∀ (g : Nat → Nat → Int32) (z : Nat → Nat) (H : Heap) (locs : List Loc) (ls : Array Slot), isL S138 g z → va_P D vwCl (rlW cA ad g z) H → va_D A (rlW cA ad g z) → va_S A s.heap H locs → lv_has ls 2 [(1, .int (nI 22)), (0, .ref (ad 70))] → W p l e rm_Lmost s m args below meth c H locs 146 1453 Q (F0 m 117 ls [])) : ∀ (g : Nat → Nat → Int32) (z : Nat → Nat) (H : Heap) (locs : List Loc) (ls : Array Slot), isL S133 g z → va_P D vwCl (rlW cA ad g z) H → va_D A (rlW cA ad g z) → va_S A s.heap H locs → lv_has ls 2 [(1, .int (nI 19)), (0, .ref (ad 70))] → W p l e rm_Lmost s m args below meth c H locs 144 1441 Q (F0 m 147 ls []) := by
  intro g z H locs ls hs hP hD hS hl
  refine lv_iinc (v := nI 20) (lv' := [(1, .int (nI 20)), (0, .ref (ad 70))]) C.hx C.hb dL_most_147 hl (k := 0) rfl (by decide +kernel) (by decide) rfl (fun ls hl => ?_)
  refine lv_goto (tgt := 102) C.hx C.hb dL_most_150 (by decide) ?_
  refine lv_iload_n C.hx C.hb dL_most_102 rfl (lv_at hl 0 rfl) ?_
  refine lv_bipush (v := nI 25) C.hx C.hb dL_most_103 (by decide +kernel) ?_
  refine lv_icmp_ge (tgt := 153) C.hx C.hb dL_most_105 (by decide) (fun c9 => absurd c9 (by decide +kernel)) (fun _ => ?_)
  refine lv_aload_n C.hx C.hb dL_most_108 rfl (lv_at hl 1 rfl) ?_
  refine lv_iconst (v := nI 0) C.hx C.hb dL_most_109 (by decide +kernel) ?_
  refine lv_iconst (v := nI 1) C.hx C.hb dL_most_110 (by decide +kernel) ?_
  refine q_cO (L := S133) (L' := S134) (As := [.int (nI 0), .int (nI 1)]) C hs hP hD hS (cs_join S134 0 1 0 (by decide +kernel)) k_X5_join kl_L_51 rfl hl rfl rfl (Nat.le_of_ble_eq_true rfl) ⟨⟨rfl, rfl⟩, Nat.le_of_ble_eq_true rfl, Nat.le_of_ble_eq_true rfl⟩ ⟨Nat.le_of_ble_eq_true rfl, Nat.le_of_ble_eq_true rfl⟩ dL_most_111 (fun g z H locs hs hP hD hS => ?_)
  refine lv_if_ne (tgt := 145) C.hx C.hb dL_most_114 (by decide) (fun c9 => absurd c9 (by decide +kernel)) (fun _ => ?_)
  refine lv_aload_n C.hx C.hb dL_most_117 rfl (lv_at hl 1 rfl) ?_
  refine lv_bipush (v := nI 13) C.hx C.hb dL_most_118 (by decide +kernel) ?_
  refine lv_iconst (v := nI 1) C.hx C.hb dL_most_120 (by decide +kernel) ?_
  refine lv_iconst (v := nI 0) C.hx C.hb dL_most_121 (by decide +kernel) ?_
  refine lv_iconst (v := nI 0) C.hx C.hb dL_most_122 (by decide +kernel) ?_
  refine lv_iconst (v := nI 0) C.hx C.hb dL_most_123 (by decide +kernel) ?_
  refine q_cA (L := S134) (L' := S135) (r := nI 36) (c2 := 145) (s2 := 1447) (As := [.int (nI 13), .int (nI 1), .int (nI 0), .int (nI 0), .int (nI 0)]) C hs hP hD hS (ca_split (nI 1) (nI 0) (nI 0) (nI 0) (nI 36) (cs_split S135 1 36 (by decide +kernel))) kl_L_102 hl rfl rfl (Nat.le_of_ble_eq_true rfl) ⟨Nat.le_of_ble_eq_true rfl, Nat.le_of_ble_eq_true rfl⟩ ⟨Nat.le_of_ble_eq_true rfl, Nat.le_of_ble_eq_true rfl⟩ ⟨Nat.le_of_ble_eq_true rfl, Nat.le_of_ble_eq_true rfl⟩ dL_most_124 (fun g z H locs hs hP hD hS => ?_)
  refine lv_iload_n C.hx C.hb dL_most_127 rfl (lv_at hl 0 rfl) ?_
  refine lv_bipush (v := nI 24) C.hx C.hb dL_most_128 (by decide +kernel) ?_
  refine lv_icmp_ge (tgt := 140) C.hx C.hb dL_most_130 (by decide) (fun c9 => absurd c9 (by decide +kernel)) (fun _ => ?_)
  refine lv_bipush (v := nI 16) C.hx C.hb dL_most_133 (by decide +kernel) ?_
  refine lv_iload_n C.hx C.hb dL_most_135 rfl (lv_at hl 0 rfl) ?_
  refine lv_iadd C.hx C.hb dL_most_136 ?_
  refine q_top (y := nI 36) (by decide +kernel) ?_
  refine lv_goto (tgt := 142) C.hx C.hb dL_most_137 (by decide) ?_
  refine lv_icmp_eq (tgt := 147) C.hx C.hb dL_most_142 (by decide) (fun _ => ?_) (fun c9 => absurd c9 (by decide +kernel))
  refine lv_iinc (v := nI 21) (lv' := [(1, .int (nI 21)), (0, .ref (ad 70))]) C.hx C.hb dL_most_147 hl (k := 0) rfl (by decide +kernel) (by decide) rfl (fun ls hl => ?_)
  refine lv_goto (tgt := 102) C.hx C.hb dL_most_150 (by decide) ?_
  refine lv_iload_n C.hx C.hb dL_most_102 rfl (lv_at hl 0 rfl) ?_
  refine lv_bipush (v := nI 25) C.hx C.hb dL_most_103 (by decide +kernel) ?_
  refine lv_icmp_ge (tgt := 153) C.hx C.hb dL_most_105 (by decide) (fun c9 => absurd c9 (by decide +kernel)) (fun _ => ?_)
  refine lv_aload_n C.hx C.hb dL_most_108 rfl (lv_at hl 1 rfl) ?_
  refine lv_iconst (v := nI 0) C.hx C.hb dL_most_109 (by decide +kernel) ?_
  refine lv_iconst (v := nI 1) C.hx C.hb dL_most_110 (by decide +kernel) ?_
  refine q_cO (L := S135) (L' := S136) (As := [.int (nI 0), .int (nI 1)]) C hs hP hD hS (cs_join S136 0 1 0 (by decide +kernel)) k_X5_join kl_L_51 rfl hl rfl rfl (Nat.le_of_ble_eq_true rfl) ⟨⟨rfl, rfl⟩, Nat.le_of_ble_eq_true rfl, Nat.le_of_ble_eq_true rfl⟩ ⟨Nat.le_of_ble_eq_true rfl, Nat.le_of_ble_eq_true rfl⟩ dL_most_111 (fun g z H locs hs hP hD hS => ?_)
  refine lv_if_ne (tgt := 145) C.hx C.hb dL_most_114 (by decide) (fun c9 => absurd c9 (by decide +kernel)) (fun _ => ?_)
  refine lv_aload_n C.hx C.hb dL_most_117 rfl (lv_at hl 1 rfl) ?_
  refine lv_bipush (v := nI 13) C.hx C.hb dL_most_118 (by decide +kernel) ?_
  refine lv_iconst (v := nI 1) C.hx C.hb dL_most_120 (by decide +kernel) ?_
  refine lv_iconst (v := nI 0) C.hx C.hb dL_most_121 (by decide +kernel) ?_
  refine lv_iconst (v := nI 0) C.hx C.hb dL_most_122 (by decide +kernel) ?_
  refine lv_iconst (v := nI 0) C.hx C.hb dL_most_123 (by decide +kernel) ?_
  refine q_cA (L := S136) (L' := S137) (r := nI 37) (c2 := 146) (s2 := 1453) (As := [.int (nI 13), .int (nI 1), .int (nI 0), .int (nI 0), .int (nI 0)]) C hs hP hD hS (ca_split (nI 1) (nI 0) (nI 0) (nI 0) (nI 37) (cs_split S137 1 37 (by decide +kernel))) kl_L_102 hl rfl rfl (Nat.le_of_ble_eq_true rfl) ⟨Nat.le_of_ble_eq_true rfl, Nat.le_of_ble_eq_true rfl⟩ ⟨Nat.le_of_ble_eq_true rfl, Nat.le_of_ble_eq_true rfl⟩ ⟨Nat.le_of_ble_eq_true rfl, Nat.le_of_ble_eq_true rfl⟩ dL_most_124 (fun g z H locs hs hP hD hS => ?_)
  refine lv_iload_n C.hx C.hb dL_most_127 rfl (lv_at hl 0 rfl) ?_
  refine lv_bipush (v := nI 24) C.hx C.hb dL_most_128 (by decide +kernel) ?_
  refine lv_icmp_ge (tgt := 140) C.hx C.hb dL_most_130 (by decide) (fun c9 => absurd c9 (by decide +kernel)) (fun _ => ?_)
  refine lv_bipush (v := nI 16) C.hx C.hb dL_most_133 (by decide +kernel) ?_
  refine lv_iload_n C.hx C.hb dL_most_135 rfl (lv_at hl 0 rfl) ?_
  refine lv_iadd C.hx C.hb dL_most_136 ?_
  refine q_top (y := nI 37) (by decide +kernel) ?_
  refine lv_goto (tgt := 142) C.hx C.hb dL_most_137 (by decide) ?_
  refine lv_icmp_eq (tgt := 147) C.hx C.hb dL_most_142 (by decide) (fun _ => ?_) (fun c9 => absurd c9 (by decide +kernel))
  refine lv_iinc (v := nI 22) (lv' := [(1, .int (nI 22)), (0, .ref (ad 70))]) C.hx C.hb dL_most_147 hl (k := 0) rfl (by decide +kernel) (by decide) rfl (fun ls hl => ?_)
  refine lv_goto (tgt := 102) C.hx C.hb dL_most_150 (by decide) ?_
  refine lv_iload_n C.hx C.hb dL_most_102 rfl (lv_at hl 0 rfl) ?_
  refine lv_bipush (v := nI 25) C.hx C.hb dL_most_103 (by decide +kernel) ?_
  refine lv_icmp_ge (tgt := 153) C.hx C.hb dL_most_105 (by decide) (fun c9 => absurd c9 (by decide +kernel)) (fun _ => ?_)
  refine lv_aload_n C.hx C.hb dL_most_108 rfl (lv_at hl 1 rfl) ?_
  refine lv_iconst (v := nI 0) C.hx C.hb dL_most_109 (by decide +kernel) ?_
  refine lv_iconst (v := nI 1) C.hx C.hb dL_most_110 (by decide +kernel) ?_
  refine q_cO (L := S137) (L' := S138) (As := [.int (nI 0), .int (nI 1)]) C hs hP hD hS (cs_join S138 0 1 0 (by decide +kernel)) k_X5_join kl_L_51 rfl hl rfl rfl (Nat.le_of_ble_eq_true rfl) ⟨⟨rfl, rfl⟩, Nat.le_of_ble_eq_true rfl, Nat.le_of_ble_eq_true rfl⟩ ⟨Nat.le_of_ble_eq_true rfl, Nat.le_of_ble_eq_true rfl⟩ dL_most_111 (fun g z H locs hs hP hD hS => ?_)
  refine lv_if_ne (tgt := 145) C.hx C.hb dL_most_114 (by decide) (fun c9 => absurd c9 (by decide +kernel)) (fun _ => ?_)
  exact kk g z H locs ls hs hP hD hS hl

set_option maxRecDepth 100000 in
set_option maxHeartbeats 4000000 in
theorem tr_most_27 {p : Program} {l : Launch} {e : Env} {s : State} {m : MethodId} {args : Array Value} {below : List Frame} {meth : Method} {c : Code} {D : va_G} {cA : ClassId} {A : Nat → Prop} {ad : Nat → Nat} {Q : State → Prop} (C : lcx p l s m c cL_most 2 D cA A) (kk : ∀ (g : Nat → Nat → Int32) (z : Nat → Nat) (H : Heap) (locs : List Loc) (ls : Array Slot), isL S142 g z → va_P D vwCl (rlW cA ad g z) H → va_D A (rlW cA ad g z) → va_S A s.heap H locs → lv_has ls 2 [(1, .int (nI 24)), (0, .ref (ad 70))] → W p l e rm_Lmost s m args below meth c H locs 149 1471 Q (F0 m 147 ls [])) : ∀ (g : Nat → Nat → Int32) (z : Nat → Nat) (H : Heap) (locs : List Loc) (ls : Array Slot), isL S138 g z → va_P D vwCl (rlW cA ad g z) H → va_D A (rlW cA ad g z) → va_S A s.heap H locs → lv_has ls 2 [(1, .int (nI 22)), (0, .ref (ad 70))] → W p l e rm_Lmost s m args below meth c H locs 146 1453 Q (F0 m 117 ls []) := by
  intro g z H locs ls hs hP hD hS hl
  refine lv_aload_n C.hx C.hb dL_most_117 rfl (lv_at hl 1 rfl) ?_
  refine lv_bipush (v := nI 13) C.hx C.hb dL_most_118 (by decide +kernel) ?_
  refine lv_iconst (v := nI 1) C.hx C.hb dL_most_120 (by decide +kernel) ?_
  refine lv_iconst (v := nI 0) C.hx C.hb dL_most_121 (by decide +kernel) ?_
  refine lv_iconst (v := nI 0) C.hx C.hb dL_most_122 (by decide +kernel) ?_
  refine lv_iconst (v := nI 0) C.hx C.hb dL_most_123 (by decide +kernel) ?_
  refine q_cA (L := S138) (L' := S139) (r := nI 38) (c2 := 147) (s2 := 1459) (As := [.int (nI 13), .int (nI 1), .int (nI 0), .int (nI 0), .int (nI 0)]) C hs hP hD hS (ca_split (nI 1) (nI 0) (nI 0) (nI 0) (nI 38) (cs_split S139 1 38 (by decide +kernel))) kl_L_102 hl rfl rfl (Nat.le_of_ble_eq_true rfl) ⟨Nat.le_of_ble_eq_true rfl, Nat.le_of_ble_eq_true rfl⟩ ⟨Nat.le_of_ble_eq_true rfl, Nat.le_of_ble_eq_true rfl⟩ ⟨Nat.le_of_ble_eq_true rfl, Nat.le_of_ble_eq_true rfl⟩ dL_most_124 (fun g z H locs hs hP hD hS => ?_)
  refine lv_iload_n C.hx C.hb dL_most_127 rfl (lv_at hl 0 rfl) ?_
  refine lv_bipush (v := nI 24) C.hx C.hb dL_most_128 (by decide +kernel) ?_
  refine lv_icmp_ge (tgt := 140) C.hx C.hb dL_most_130 (by decide) (fun c9 => absurd c9 (by decide +kernel)) (fun _ => ?_)
  refine lv_bipush (v := nI 16) C.hx C.hb dL_most_133 (by decide +kernel) ?_
  refine lv_iload_n C.hx C.hb dL_most_135 rfl (lv_at hl 0 rfl) ?_
  refine lv_iadd C.hx C.hb dL_most_136 ?_
  refine q_top (y := nI 38) (by decide +kernel) ?_
  refine lv_goto (tgt := 142) C.hx C.hb dL_most_137 (by decide) ?_
  refine lv_icmp_eq (tgt := 147) C.hx C.hb dL_most_142 (by decide) (fun _ => ?_) (fun c9 => absurd c9 (by decide +kernel))
  refine lv_iinc (v := nI 23) (lv' := [(1, .int (nI 23)), (0, .ref (ad 70))]) C.hx C.hb dL_most_147 hl (k := 0) rfl (by decide +kernel) (by decide) rfl (fun ls hl => ?_)
  refine lv_goto (tgt := 102) C.hx C.hb dL_most_150 (by decide) ?_
  refine lv_iload_n C.hx C.hb dL_most_102 rfl (lv_at hl 0 rfl) ?_
  refine lv_bipush (v := nI 25) C.hx C.hb dL_most_103 (by decide +kernel) ?_
  refine lv_icmp_ge (tgt := 153) C.hx C.hb dL_most_105 (by decide) (fun c9 => absurd c9 (by decide +kernel)) (fun _ => ?_)
  refine lv_aload_n C.hx C.hb dL_most_108 rfl (lv_at hl 1 rfl) ?_
  refine lv_iconst (v := nI 0) C.hx C.hb dL_most_109 (by decide +kernel) ?_
  refine lv_iconst (v := nI 1) C.hx C.hb dL_most_110 (by decide +kernel) ?_
  refine q_cO (L := S139) (L' := S140) (As := [.int (nI 0), .int (nI 1)]) C hs hP hD hS (cs_join S140 0 1 0 (by decide +kernel)) k_X5_join kl_L_51 rfl hl rfl rfl (Nat.le_of_ble_eq_true rfl) ⟨⟨rfl, rfl⟩, Nat.le_of_ble_eq_true rfl, Nat.le_of_ble_eq_true rfl⟩ ⟨Nat.le_of_ble_eq_true rfl, Nat.le_of_ble_eq_true rfl⟩ dL_most_111 (fun g z H locs hs hP hD hS => ?_)
  refine lv_if_ne (tgt := 145) C.hx C.hb dL_most_114 (by decide) (fun c9 => absurd c9 (by decide +kernel)) (fun _ => ?_)
  refine lv_aload_n C.hx C.hb dL_most_117 rfl (lv_at hl 1 rfl) ?_
  refine lv_bipush (v := nI 13) C.hx C.hb dL_most_118 (by decide +kernel) ?_
  refine lv_iconst (v := nI 1) C.hx C.hb dL_most_120 (by decide +kernel) ?_
  refine lv_iconst (v := nI 0) C.hx C.hb dL_most_121 (by decide +kernel) ?_
  refine lv_iconst (v := nI 0) C.hx C.hb dL_most_122 (by decide +kernel) ?_
  refine lv_iconst (v := nI 0) C.hx C.hb dL_most_123 (by decide +kernel) ?_
  refine q_cA (L := S140) (L' := S141) (r := nI 39) (c2 := 148) (s2 := 1465) (As := [.int (nI 13), .int (nI 1), .int (nI 0), .int (nI 0), .int (nI 0)]) C hs hP hD hS (ca_split (nI 1) (nI 0) (nI 0) (nI 0) (nI 39) (cs_split S141 1 39 (by decide +kernel))) kl_L_102 hl rfl rfl (Nat.le_of_ble_eq_true rfl) ⟨Nat.le_of_ble_eq_true rfl, Nat.le_of_ble_eq_true rfl⟩ ⟨Nat.le_of_ble_eq_true rfl, Nat.le_of_ble_eq_true rfl⟩ ⟨Nat.le_of_ble_eq_true rfl, Nat.le_of_ble_eq_true rfl⟩ dL_most_124 (fun g z H locs hs hP hD hS => ?_)
  refine lv_iload_n C.hx C.hb dL_most_127 rfl (lv_at hl 0 rfl) ?_
  refine lv_bipush (v := nI 24) C.hx C.hb dL_most_128 (by decide +kernel) ?_
  refine lv_icmp_ge (tgt := 140) C.hx C.hb dL_most_130 (by decide) (fun c9 => absurd c9 (by decide +kernel)) (fun _ => ?_)
  refine lv_bipush (v := nI 16) C.hx C.hb dL_most_133 (by decide +kernel) ?_
  refine lv_iload_n C.hx C.hb dL_most_135 rfl (lv_at hl 0 rfl) ?_
  refine lv_iadd C.hx C.hb dL_most_136 ?_
  refine q_top (y := nI 39) (by decide +kernel) ?_
  refine lv_goto (tgt := 142) C.hx C.hb dL_most_137 (by decide) ?_
  refine lv_icmp_eq (tgt := 147) C.hx C.hb dL_most_142 (by decide) (fun _ => ?_) (fun c9 => absurd c9 (by decide +kernel))
  refine lv_iinc (v := nI 24) (lv' := [(1, .int (nI 24)), (0, .ref (ad 70))]) C.hx C.hb dL_most_147 hl (k := 0) rfl (by decide +kernel) (by decide) rfl (fun ls hl => ?_)
  refine lv_goto (tgt := 102) C.hx C.hb dL_most_150 (by decide) ?_
  refine lv_iload_n C.hx C.hb dL_most_102 rfl (lv_at hl 0 rfl) ?_
  refine lv_bipush (v := nI 25) C.hx C.hb dL_most_103 (by decide +kernel) ?_
  refine lv_icmp_ge (tgt := 153) C.hx C.hb dL_most_105 (by decide) (fun c9 => absurd c9 (by decide +kernel)) (fun _ => ?_)
  refine lv_aload_n C.hx C.hb dL_most_108 rfl (lv_at hl 1 rfl) ?_
  refine lv_iconst (v := nI 0) C.hx C.hb dL_most_109 (by decide +kernel) ?_
  refine lv_iconst (v := nI 1) C.hx C.hb dL_most_110 (by decide +kernel) ?_
  refine q_cO (L := S141) (L' := S142) (As := [.int (nI 0), .int (nI 1)]) C hs hP hD hS (cs_join S142 0 1 0 (by decide +kernel)) k_X5_join kl_L_51 rfl hl rfl rfl (Nat.le_of_ble_eq_true rfl) ⟨⟨rfl, rfl⟩, Nat.le_of_ble_eq_true rfl, Nat.le_of_ble_eq_true rfl⟩ ⟨Nat.le_of_ble_eq_true rfl, Nat.le_of_ble_eq_true rfl⟩ dL_most_111 (fun g z H locs hs hP hD hS => ?_)
  refine lv_if_ne (tgt := 145) C.hx C.hb dL_most_114 (by decide) (fun c9 => absurd c9 (by decide +kernel)) (fun _ => ?_)
  refine lv_aload_n C.hx C.hb dL_most_117 rfl (lv_at hl 1 rfl) ?_
  refine lv_bipush (v := nI 13) C.hx C.hb dL_most_118 (by decide +kernel) ?_
  refine lv_iconst (v := nI 1) C.hx C.hb dL_most_120 (by decide +kernel) ?_
  refine lv_iconst (v := nI 0) C.hx C.hb dL_most_121 (by decide +kernel) ?_
  refine lv_iconst (v := nI 0) C.hx C.hb dL_most_122 (by decide +kernel) ?_
  refine lv_iconst (v := nI 0) C.hx C.hb dL_most_123 (by decide +kernel) ?_
  refine q_cA (L := S142) (L' := S142) (r := -7000003) (c2 := 149) (s2 := 1471) (As := [.int (nI 13), .int (nI 1), .int (nI 0), .int (nI 0), .int (nI 0)]) C hs hP hD hS (cx_split2 C.htr 1 (nI 0) (nI 0) (nI 0) (by decide +kernel)) kl_L_102 hl rfl rfl (Nat.le_of_ble_eq_true rfl) ⟨Nat.le_of_ble_eq_true rfl, Nat.le_of_ble_eq_true rfl⟩ ⟨Nat.le_of_ble_eq_true rfl, Nat.le_of_ble_eq_true rfl⟩ ⟨Nat.le_of_ble_eq_true rfl, Nat.le_of_ble_eq_true rfl⟩ dL_most_124 (fun g z H locs hs hP hD hS => ?_)
  refine lv_iload_n C.hx C.hb dL_most_127 rfl (lv_at hl 0 rfl) ?_
  refine lv_bipush (v := nI 24) C.hx C.hb dL_most_128 (by decide +kernel) ?_
  refine lv_icmp_ge (tgt := 140) C.hx C.hb dL_most_130 (by decide) (fun _ => ?_) (fun c9 => absurd c9 (by decide +kernel))
  refine lv_ldc (v := -7000003) C.hx C.hb C.hown (C.hT.use kk_L_96 args) dL_most_140 ?_
  refine lv_icmp_eq (tgt := 147) C.hx C.hb dL_most_142 (by decide) (fun _ => ?_) (fun c9 => absurd c9 (by decide +kernel))
  exact kk g z H locs ls hs hP hD hS hl

set_option maxRecDepth 100000 in
set_option maxHeartbeats 4000000 in
theorem tr_most_28 {p : Program} {l : Launch} {e : Env} {s : State} {m : MethodId} {args : Array Value} {below : List Frame} {meth : Method} {c : Code} {D : va_G} {cA : ClassId} {A : Nat → Prop} {ad : Nat → Nat} {Q : State → Prop} (C : lcx p l s m c cL_most 2 D cA A) (kk : ∀ (g : Nat → Nat → Int32) (z : Nat → Nat) (H : Heap) (locs : List Loc) (ls : Array Slot), isL S145 g z → va_P D vwCl (rlW cA ad g z) H → va_D A (rlW cA ad g z) → va_S A s.heap H locs → lv_has ls 2 [(1, .int (nI 4)), (0, .ref (ad 70))] → W p l e rm_Lmost s m args below meth c H locs 149 1471 Q (F0 m 213 ls [])) : ∀ (g : Nat → Nat → Int32) (z : Nat → Nat) (H : Heap) (locs : List Loc) (ls : Array Slot), isL S142 g z → va_P D vwCl (rlW cA ad g z) H → va_D A (rlW cA ad g z) → va_S A s.heap H locs → lv_has ls 2 [(1, .int (nI 24)), (0, .ref (ad 70))] → W p l e rm_Lmost s m args below meth c H locs 149 1471 Q (F0 m 147 ls []) := by
  intro g z H locs ls hs hP hD hS hl
  refine lv_iinc (v := nI 25) (lv' := [(1, .int (nI 25)), (0, .ref (ad 70))]) C.hx C.hb dL_most_147 hl (k := 0) rfl (by decide +kernel) (by decide) rfl (fun ls hl => ?_)
  refine lv_goto (tgt := 102) C.hx C.hb dL_most_150 (by decide) ?_
  refine lv_iload_n C.hx C.hb dL_most_102 rfl (lv_at hl 0 rfl) ?_
  refine lv_bipush (v := nI 25) C.hx C.hb dL_most_103 (by decide +kernel) ?_
  refine lv_icmp_ge (tgt := 153) C.hx C.hb dL_most_105 (by decide) (fun _ => ?_) (fun c9 => absurd c9 (by decide +kernel))
  refine lv_aload_n C.hx C.hb dL_most_153 rfl (lv_at hl 1 rfl) ?_
  refine lv_iconst (v := nI 1) C.hx C.hb dL_most_154 (by decide +kernel) ?_
  refine q_cO (L := S142) (L' := S142) (As := [.int (nI 1)]) C hs hP hD hS (cs_person 1 0 (by decide +kernel)) k_X5_person kl_L_58 rfl hl rfl rfl (Nat.le_of_ble_eq_true rfl) ⟨⟨rfl, rfl⟩, Nat.le_of_ble_eq_true rfl, Nat.le_of_ble_eq_true rfl⟩ ⟨Nat.le_of_ble_eq_true rfl, Nat.le_of_ble_eq_true rfl⟩ dL_most_155 (fun g z H locs hs hP hD hS => ?_)
  refine lv_if_ne (tgt := 190) C.hx C.hb dL_most_158 (by decide) (fun c9 => absurd c9 (by decide +kernel)) (fun _ => ?_)
  refine lv_aload_n C.hx C.hb dL_most_161 rfl (lv_at hl 1 rfl) ?_
  refine lv_bipush (v := nI 39) C.hx C.hb dL_most_162 (by decide +kernel) ?_
  refine q_cO (L := S142) (L' := S142) (As := [.int (nI 39)]) C hs hP hD hS (cs_entry 39 0 (by decide +kernel)) k_X5_entry kl_L_61 rfl hl rfl rfl (Nat.le_of_ble_eq_true rfl) ⟨⟨rfl, rfl⟩, Nat.le_of_ble_eq_true rfl, Nat.le_of_ble_eq_true rfl⟩ ⟨Nat.le_of_ble_eq_true rfl, Nat.le_of_ble_eq_true rfl⟩ dL_most_164 (fun g z H locs hs hP hD hS => ?_)
  refine lv_if_ne (tgt := 190) C.hx C.hb dL_most_167 (by decide) (fun c9 => absurd c9 (by decide +kernel)) (fun _ => ?_)
  refine lv_aload_n C.hx C.hb dL_most_170 rfl (lv_at hl 1 rfl) ?_
  refine lv_bipush (v := nI 16) C.hx C.hb dL_most_171 (by decide +kernel) ?_
  refine q_cO (L := S142) (L' := S142) (As := [.int (nI 16)]) C hs hP hD hS (cs_entry 16 0 (by decide +kernel)) k_X5_entry kl_L_61 rfl hl rfl rfl (Nat.le_of_ble_eq_true rfl) ⟨⟨rfl, rfl⟩, Nat.le_of_ble_eq_true rfl, Nat.le_of_ble_eq_true rfl⟩ ⟨Nat.le_of_ble_eq_true rfl, Nat.le_of_ble_eq_true rfl⟩ dL_most_173 (fun g z H locs hs hP hD hS => ?_)
  refine lv_if_ne (tgt := 190) C.hx C.hb dL_most_176 (by decide) (fun c9 => absurd c9 (by decide +kernel)) (fun _ => ?_)
  refine lv_aload_n C.hx C.hb dL_most_179 rfl (lv_at hl 1 rfl) ?_
  refine lv_bipush (v := nI 15) C.hx C.hb dL_most_180 (by decide +kernel) ?_
  refine q_cO (L := S142) (L' := S142) (As := [.int (nI 15)]) C hs hP hD hS (cs_entry 15 15 (by decide +kernel)) k_X5_entry kl_L_61 rfl hl rfl rfl (Nat.le_of_ble_eq_true rfl) ⟨⟨rfl, rfl⟩, Nat.le_of_ble_eq_true rfl, Nat.le_of_ble_eq_true rfl⟩ ⟨Nat.le_of_ble_eq_true rfl, Nat.le_of_ble_eq_true rfl⟩ dL_most_182 (fun g z H locs hs hP hD hS => ?_)
  refine lv_bipush (v := nI 15) C.hx C.hb dL_most_185 (by decide +kernel) ?_
  refine lv_icmp_eq (tgt := 192) C.hx C.hb dL_most_187 (by decide) (fun _ => ?_) (fun c9 => absurd c9 (by decide +kernel))
  refine lv_iconst (v := nI 2) C.hx C.hb dL_most_192 (by decide +kernel) ?_
  refine lv_istore_n (lv' := [(1, .int (nI 2)), (0, .ref (ad 70))]) C.hx C.hb dL_most_193 rfl hl (by decide) rfl (fun ls hl => ?_)
  refine lv_iload_n C.hx C.hb dL_most_194 rfl (lv_at hl 0 rfl) ?_
  refine lv_bipush (v := nI 16) C.hx C.hb dL_most_195 (by decide +kernel) ?_
  refine lv_icmp_ge (tgt := 219) C.hx C.hb dL_most_197 (by decide) (fun c9 => absurd c9 (by decide +kernel)) (fun _ => ?_)
  refine lv_aload_n C.hx C.hb dL_most_200 rfl (lv_at hl 1 rfl) ?_
  refine lv_iload_n C.hx C.hb dL_most_201 rfl (lv_at hl 0 rfl) ?_
  refine lv_iload_n C.hx C.hb dL_most_202 rfl (lv_at hl 0 rfl) ?_
  refine lv_iconst (v := nI 1) C.hx C.hb dL_most_203 (by decide +kernel) ?_
  refine lv_isub C.hx C.hb dL_most_204 ?_
  refine q_top (y := nI 1) (by decide +kernel) ?_
  refine q_cO (L := S142) (L' := S143) (As := [.int (nI 2), .int (nI 1)]) C hs hP hD hS (cs_join S143 2 1 0 (by decide +kernel)) k_X5_join kl_L_51 rfl hl rfl rfl (Nat.le_of_ble_eq_true rfl) ⟨⟨rfl, rfl⟩, Nat.le_of_ble_eq_true rfl, Nat.le_of_ble_eq_true rfl⟩ ⟨Nat.le_of_ble_eq_true rfl, Nat.le_of_ble_eq_true rfl⟩ dL_most_205 (fun g z H locs hs hP hD hS => ?_)
  refine lv_if_eq (tgt := 213) C.hx C.hb dL_most_208 (by decide) (fun _ => ?_) (fun c9 => absurd c9 (by decide +kernel))
  refine lv_iinc (v := nI 3) (lv' := [(1, .int (nI 3)), (0, .ref (ad 70))]) C.hx C.hb dL_most_213 hl (k := 0) rfl (by decide +kernel) (by decide) rfl (fun ls hl => ?_)
  refine lv_goto (tgt := 194) C.hx C.hb dL_most_216 (by decide) ?_
  refine lv_iload_n C.hx C.hb dL_most_194 rfl (lv_at hl 0 rfl) ?_
  refine lv_bipush (v := nI 16) C.hx C.hb dL_most_195 (by decide +kernel) ?_
  refine lv_icmp_ge (tgt := 219) C.hx C.hb dL_most_197 (by decide) (fun c9 => absurd c9 (by decide +kernel)) (fun _ => ?_)
  refine lv_aload_n C.hx C.hb dL_most_200 rfl (lv_at hl 1 rfl) ?_
  refine lv_iload_n C.hx C.hb dL_most_201 rfl (lv_at hl 0 rfl) ?_
  refine lv_iload_n C.hx C.hb dL_most_202 rfl (lv_at hl 0 rfl) ?_
  refine lv_iconst (v := nI 1) C.hx C.hb dL_most_203 (by decide +kernel) ?_
  refine lv_isub C.hx C.hb dL_most_204 ?_
  refine q_top (y := nI 2) (by decide +kernel) ?_
  refine q_cO (L := S143) (L' := S144) (As := [.int (nI 3), .int (nI 2)]) C hs hP hD hS (cs_join S144 3 2 0 (by decide +kernel)) k_X5_join kl_L_51 rfl hl rfl rfl (Nat.le_of_ble_eq_true rfl) ⟨⟨rfl, rfl⟩, Nat.le_of_ble_eq_true rfl, Nat.le_of_ble_eq_true rfl⟩ ⟨Nat.le_of_ble_eq_true rfl, Nat.le_of_ble_eq_true rfl⟩ dL_most_205 (fun g z H locs hs hP hD hS => ?_)
  refine lv_if_eq (tgt := 213) C.hx C.hb dL_most_208 (by decide) (fun _ => ?_) (fun c9 => absurd c9 (by decide +kernel))
  refine lv_iinc (v := nI 4) (lv' := [(1, .int (nI 4)), (0, .ref (ad 70))]) C.hx C.hb dL_most_213 hl (k := 0) rfl (by decide +kernel) (by decide) rfl (fun ls hl => ?_)
  refine lv_goto (tgt := 194) C.hx C.hb dL_most_216 (by decide) ?_
  refine lv_iload_n C.hx C.hb dL_most_194 rfl (lv_at hl 0 rfl) ?_
  refine lv_bipush (v := nI 16) C.hx C.hb dL_most_195 (by decide +kernel) ?_
  refine lv_icmp_ge (tgt := 219) C.hx C.hb dL_most_197 (by decide) (fun c9 => absurd c9 (by decide +kernel)) (fun _ => ?_)
  refine lv_aload_n C.hx C.hb dL_most_200 rfl (lv_at hl 1 rfl) ?_
  refine lv_iload_n C.hx C.hb dL_most_201 rfl (lv_at hl 0 rfl) ?_
  refine lv_iload_n C.hx C.hb dL_most_202 rfl (lv_at hl 0 rfl) ?_
  refine lv_iconst (v := nI 1) C.hx C.hb dL_most_203 (by decide +kernel) ?_
  refine lv_isub C.hx C.hb dL_most_204 ?_
  refine q_top (y := nI 3) (by decide +kernel) ?_
  refine q_cO (L := S144) (L' := S145) (As := [.int (nI 4), .int (nI 3)]) C hs hP hD hS (cs_join S145 4 3 0 (by decide +kernel)) k_X5_join kl_L_51 rfl hl rfl rfl (Nat.le_of_ble_eq_true rfl) ⟨⟨rfl, rfl⟩, Nat.le_of_ble_eq_true rfl, Nat.le_of_ble_eq_true rfl⟩ ⟨Nat.le_of_ble_eq_true rfl, Nat.le_of_ble_eq_true rfl⟩ dL_most_205 (fun g z H locs hs hP hD hS => ?_)
  refine lv_if_eq (tgt := 213) C.hx C.hb dL_most_208 (by decide) (fun _ => ?_) (fun c9 => absurd c9 (by decide +kernel))
  exact kk g z H locs ls hs hP hD hS hl

set_option maxRecDepth 100000 in
set_option maxHeartbeats 4000000 in
theorem tr_most_29 {p : Program} {l : Launch} {e : Env} {s : State} {m : MethodId} {args : Array Value} {below : List Frame} {meth : Method} {c : Code} {D : va_G} {cA : ClassId} {A : Nat → Prop} {ad : Nat → Nat} {Q : State → Prop} (C : lcx p l s m c cL_most 2 D cA A) (kk : ∀ (g : Nat → Nat → Int32) (z : Nat → Nat) (H : Heap) (locs : List Loc) (ls : Array Slot), isL S150 g z → va_P D vwCl (rlW cA ad g z) H → va_D A (rlW cA ad g z) → va_S A s.heap H locs → lv_has ls 2 [(1, .int (nI 9)), (0, .ref (ad 70))] → W p l e rm_Lmost s m args below meth c H locs 149 1471 Q (F0 m 213 ls [])) : ∀ (g : Nat → Nat → Int32) (z : Nat → Nat) (H : Heap) (locs : List Loc) (ls : Array Slot), isL S145 g z → va_P D vwCl (rlW cA ad g z) H → va_D A (rlW cA ad g z) → va_S A s.heap H locs → lv_has ls 2 [(1, .int (nI 4)), (0, .ref (ad 70))] → W p l e rm_Lmost s m args below meth c H locs 149 1471 Q (F0 m 213 ls []) := by
  intro g z H locs ls hs hP hD hS hl
  refine lv_iinc (v := nI 5) (lv' := [(1, .int (nI 5)), (0, .ref (ad 70))]) C.hx C.hb dL_most_213 hl (k := 0) rfl (by decide +kernel) (by decide) rfl (fun ls hl => ?_)
  refine lv_goto (tgt := 194) C.hx C.hb dL_most_216 (by decide) ?_
  refine lv_iload_n C.hx C.hb dL_most_194 rfl (lv_at hl 0 rfl) ?_
  refine lv_bipush (v := nI 16) C.hx C.hb dL_most_195 (by decide +kernel) ?_
  refine lv_icmp_ge (tgt := 219) C.hx C.hb dL_most_197 (by decide) (fun c9 => absurd c9 (by decide +kernel)) (fun _ => ?_)
  refine lv_aload_n C.hx C.hb dL_most_200 rfl (lv_at hl 1 rfl) ?_
  refine lv_iload_n C.hx C.hb dL_most_201 rfl (lv_at hl 0 rfl) ?_
  refine lv_iload_n C.hx C.hb dL_most_202 rfl (lv_at hl 0 rfl) ?_
  refine lv_iconst (v := nI 1) C.hx C.hb dL_most_203 (by decide +kernel) ?_
  refine lv_isub C.hx C.hb dL_most_204 ?_
  refine q_top (y := nI 4) (by decide +kernel) ?_
  refine q_cO (L := S145) (L' := S146) (As := [.int (nI 5), .int (nI 4)]) C hs hP hD hS (cs_join S146 5 4 0 (by decide +kernel)) k_X5_join kl_L_51 rfl hl rfl rfl (Nat.le_of_ble_eq_true rfl) ⟨⟨rfl, rfl⟩, Nat.le_of_ble_eq_true rfl, Nat.le_of_ble_eq_true rfl⟩ ⟨Nat.le_of_ble_eq_true rfl, Nat.le_of_ble_eq_true rfl⟩ dL_most_205 (fun g z H locs hs hP hD hS => ?_)
  refine lv_if_eq (tgt := 213) C.hx C.hb dL_most_208 (by decide) (fun _ => ?_) (fun c9 => absurd c9 (by decide +kernel))
  refine lv_iinc (v := nI 6) (lv' := [(1, .int (nI 6)), (0, .ref (ad 70))]) C.hx C.hb dL_most_213 hl (k := 0) rfl (by decide +kernel) (by decide) rfl (fun ls hl => ?_)
  refine lv_goto (tgt := 194) C.hx C.hb dL_most_216 (by decide) ?_
  refine lv_iload_n C.hx C.hb dL_most_194 rfl (lv_at hl 0 rfl) ?_
  refine lv_bipush (v := nI 16) C.hx C.hb dL_most_195 (by decide +kernel) ?_
  refine lv_icmp_ge (tgt := 219) C.hx C.hb dL_most_197 (by decide) (fun c9 => absurd c9 (by decide +kernel)) (fun _ => ?_)
  refine lv_aload_n C.hx C.hb dL_most_200 rfl (lv_at hl 1 rfl) ?_
  refine lv_iload_n C.hx C.hb dL_most_201 rfl (lv_at hl 0 rfl) ?_
  refine lv_iload_n C.hx C.hb dL_most_202 rfl (lv_at hl 0 rfl) ?_
  refine lv_iconst (v := nI 1) C.hx C.hb dL_most_203 (by decide +kernel) ?_
  refine lv_isub C.hx C.hb dL_most_204 ?_
  refine q_top (y := nI 5) (by decide +kernel) ?_
  refine q_cO (L := S146) (L' := S147) (As := [.int (nI 6), .int (nI 5)]) C hs hP hD hS (cs_join S147 6 5 0 (by decide +kernel)) k_X5_join kl_L_51 rfl hl rfl rfl (Nat.le_of_ble_eq_true rfl) ⟨⟨rfl, rfl⟩, Nat.le_of_ble_eq_true rfl, Nat.le_of_ble_eq_true rfl⟩ ⟨Nat.le_of_ble_eq_true rfl, Nat.le_of_ble_eq_true rfl⟩ dL_most_205 (fun g z H locs hs hP hD hS => ?_)
  refine lv_if_eq (tgt := 213) C.hx C.hb dL_most_208 (by decide) (fun _ => ?_) (fun c9 => absurd c9 (by decide +kernel))
  refine lv_iinc (v := nI 7) (lv' := [(1, .int (nI 7)), (0, .ref (ad 70))]) C.hx C.hb dL_most_213 hl (k := 0) rfl (by decide +kernel) (by decide) rfl (fun ls hl => ?_)
  refine lv_goto (tgt := 194) C.hx C.hb dL_most_216 (by decide) ?_
  refine lv_iload_n C.hx C.hb dL_most_194 rfl (lv_at hl 0 rfl) ?_
  refine lv_bipush (v := nI 16) C.hx C.hb dL_most_195 (by decide +kernel) ?_
  refine lv_icmp_ge (tgt := 219) C.hx C.hb dL_most_197 (by decide) (fun c9 => absurd c9 (by decide +kernel)) (fun _ => ?_)
  refine lv_aload_n C.hx C.hb dL_most_200 rfl (lv_at hl 1 rfl) ?_
  refine lv_iload_n C.hx C.hb dL_most_201 rfl (lv_at hl 0 rfl) ?_
  refine lv_iload_n C.hx C.hb dL_most_202 rfl (lv_at hl 0 rfl) ?_
  refine lv_iconst (v := nI 1) C.hx C.hb dL_most_203 (by decide +kernel) ?_
  refine lv_isub C.hx C.hb dL_most_204 ?_
  refine q_top (y := nI 6) (by decide +kernel) ?_
  refine q_cO (L := S147) (L' := S148) (As := [.int (nI 7), .int (nI 6)]) C hs hP hD hS (cs_join S148 7 6 0 (by decide +kernel)) k_X5_join kl_L_51 rfl hl rfl rfl (Nat.le_of_ble_eq_true rfl) ⟨⟨rfl, rfl⟩, Nat.le_of_ble_eq_true rfl, Nat.le_of_ble_eq_true rfl⟩ ⟨Nat.le_of_ble_eq_true rfl, Nat.le_of_ble_eq_true rfl⟩ dL_most_205 (fun g z H locs hs hP hD hS => ?_)
  refine lv_if_eq (tgt := 213) C.hx C.hb dL_most_208 (by decide) (fun _ => ?_) (fun c9 => absurd c9 (by decide +kernel))
  refine lv_iinc (v := nI 8) (lv' := [(1, .int (nI 8)), (0, .ref (ad 70))]) C.hx C.hb dL_most_213 hl (k := 0) rfl (by decide +kernel) (by decide) rfl (fun ls hl => ?_)
  refine lv_goto (tgt := 194) C.hx C.hb dL_most_216 (by decide) ?_
  refine lv_iload_n C.hx C.hb dL_most_194 rfl (lv_at hl 0 rfl) ?_
  refine lv_bipush (v := nI 16) C.hx C.hb dL_most_195 (by decide +kernel) ?_
  refine lv_icmp_ge (tgt := 219) C.hx C.hb dL_most_197 (by decide) (fun c9 => absurd c9 (by decide +kernel)) (fun _ => ?_)
  refine lv_aload_n C.hx C.hb dL_most_200 rfl (lv_at hl 1 rfl) ?_
  refine lv_iload_n C.hx C.hb dL_most_201 rfl (lv_at hl 0 rfl) ?_
  refine lv_iload_n C.hx C.hb dL_most_202 rfl (lv_at hl 0 rfl) ?_
  refine lv_iconst (v := nI 1) C.hx C.hb dL_most_203 (by decide +kernel) ?_
  refine lv_isub C.hx C.hb dL_most_204 ?_
  refine q_top (y := nI 7) (by decide +kernel) ?_
  refine q_cO (L := S148) (L' := S149) (As := [.int (nI 8), .int (nI 7)]) C hs hP hD hS (cs_join S149 8 7 0 (by decide +kernel)) k_X5_join kl_L_51 rfl hl rfl rfl (Nat.le_of_ble_eq_true rfl) ⟨⟨rfl, rfl⟩, Nat.le_of_ble_eq_true rfl, Nat.le_of_ble_eq_true rfl⟩ ⟨Nat.le_of_ble_eq_true rfl, Nat.le_of_ble_eq_true rfl⟩ dL_most_205 (fun g z H locs hs hP hD hS => ?_)
  refine lv_if_eq (tgt := 213) C.hx C.hb dL_most_208 (by decide) (fun _ => ?_) (fun c9 => absurd c9 (by decide +kernel))
  refine lv_iinc (v := nI 9) (lv' := [(1, .int (nI 9)), (0, .ref (ad 70))]) C.hx C.hb dL_most_213 hl (k := 0) rfl (by decide +kernel) (by decide) rfl (fun ls hl => ?_)
  refine lv_goto (tgt := 194) C.hx C.hb dL_most_216 (by decide) ?_
  refine lv_iload_n C.hx C.hb dL_most_194 rfl (lv_at hl 0 rfl) ?_
  refine lv_bipush (v := nI 16) C.hx C.hb dL_most_195 (by decide +kernel) ?_
  refine lv_icmp_ge (tgt := 219) C.hx C.hb dL_most_197 (by decide) (fun c9 => absurd c9 (by decide +kernel)) (fun _ => ?_)
  refine lv_aload_n C.hx C.hb dL_most_200 rfl (lv_at hl 1 rfl) ?_
  refine lv_iload_n C.hx C.hb dL_most_201 rfl (lv_at hl 0 rfl) ?_
  refine lv_iload_n C.hx C.hb dL_most_202 rfl (lv_at hl 0 rfl) ?_
  refine lv_iconst (v := nI 1) C.hx C.hb dL_most_203 (by decide +kernel) ?_
  refine lv_isub C.hx C.hb dL_most_204 ?_
  refine q_top (y := nI 8) (by decide +kernel) ?_
  refine q_cO (L := S149) (L' := S150) (As := [.int (nI 9), .int (nI 8)]) C hs hP hD hS (cs_join S150 9 8 0 (by decide +kernel)) k_X5_join kl_L_51 rfl hl rfl rfl (Nat.le_of_ble_eq_true rfl) ⟨⟨rfl, rfl⟩, Nat.le_of_ble_eq_true rfl, Nat.le_of_ble_eq_true rfl⟩ ⟨Nat.le_of_ble_eq_true rfl, Nat.le_of_ble_eq_true rfl⟩ dL_most_205 (fun g z H locs hs hP hD hS => ?_)
  refine lv_if_eq (tgt := 213) C.hx C.hb dL_most_208 (by decide) (fun _ => ?_) (fun c9 => absurd c9 (by decide +kernel))
  exact kk g z H locs ls hs hP hD hS hl

set_option maxRecDepth 100000 in
set_option maxHeartbeats 4000000 in
theorem tr_most_30 {p : Program} {l : Launch} {e : Env} {s : State} {m : MethodId} {args : Array Value} {below : List Frame} {meth : Method} {c : Code} {D : va_G} {cA : ClassId} {A : Nat → Prop} {ad : Nat → Nat} {Q : State → Prop} (C : lcx p l s m c cL_most 2 D cA A) (kk : ∀ (g : Nat → Nat → Int32) (z : Nat → Nat) (H : Heap) (locs : List Loc) (ls : Array Slot), isL S155 g z → va_P D vwCl (rlW cA ad g z) H → va_D A (rlW cA ad g z) → va_S A s.heap H locs → lv_has ls 2 [(1, .int (nI 14)), (0, .ref (ad 70))] → W p l e rm_Lmost s m args below meth c H locs 149 1471 Q (F0 m 213 ls [])) : ∀ (g : Nat → Nat → Int32) (z : Nat → Nat) (H : Heap) (locs : List Loc) (ls : Array Slot), isL S150 g z → va_P D vwCl (rlW cA ad g z) H → va_D A (rlW cA ad g z) → va_S A s.heap H locs → lv_has ls 2 [(1, .int (nI 9)), (0, .ref (ad 70))] → W p l e rm_Lmost s m args below meth c H locs 149 1471 Q (F0 m 213 ls []) := by
  intro g z H locs ls hs hP hD hS hl
  refine lv_iinc (v := nI 10) (lv' := [(1, .int (nI 10)), (0, .ref (ad 70))]) C.hx C.hb dL_most_213 hl (k := 0) rfl (by decide +kernel) (by decide) rfl (fun ls hl => ?_)
  refine lv_goto (tgt := 194) C.hx C.hb dL_most_216 (by decide) ?_
  refine lv_iload_n C.hx C.hb dL_most_194 rfl (lv_at hl 0 rfl) ?_
  refine lv_bipush (v := nI 16) C.hx C.hb dL_most_195 (by decide +kernel) ?_
  refine lv_icmp_ge (tgt := 219) C.hx C.hb dL_most_197 (by decide) (fun c9 => absurd c9 (by decide +kernel)) (fun _ => ?_)
  refine lv_aload_n C.hx C.hb dL_most_200 rfl (lv_at hl 1 rfl) ?_
  refine lv_iload_n C.hx C.hb dL_most_201 rfl (lv_at hl 0 rfl) ?_
  refine lv_iload_n C.hx C.hb dL_most_202 rfl (lv_at hl 0 rfl) ?_
  refine lv_iconst (v := nI 1) C.hx C.hb dL_most_203 (by decide +kernel) ?_
  refine lv_isub C.hx C.hb dL_most_204 ?_
  refine q_top (y := nI 9) (by decide +kernel) ?_
  refine q_cO (L := S150) (L' := S151) (As := [.int (nI 10), .int (nI 9)]) C hs hP hD hS (cs_join S151 10 9 0 (by decide +kernel)) k_X5_join kl_L_51 rfl hl rfl rfl (Nat.le_of_ble_eq_true rfl) ⟨⟨rfl, rfl⟩, Nat.le_of_ble_eq_true rfl, Nat.le_of_ble_eq_true rfl⟩ ⟨Nat.le_of_ble_eq_true rfl, Nat.le_of_ble_eq_true rfl⟩ dL_most_205 (fun g z H locs hs hP hD hS => ?_)
  refine lv_if_eq (tgt := 213) C.hx C.hb dL_most_208 (by decide) (fun _ => ?_) (fun c9 => absurd c9 (by decide +kernel))
  refine lv_iinc (v := nI 11) (lv' := [(1, .int (nI 11)), (0, .ref (ad 70))]) C.hx C.hb dL_most_213 hl (k := 0) rfl (by decide +kernel) (by decide) rfl (fun ls hl => ?_)
  refine lv_goto (tgt := 194) C.hx C.hb dL_most_216 (by decide) ?_
  refine lv_iload_n C.hx C.hb dL_most_194 rfl (lv_at hl 0 rfl) ?_
  refine lv_bipush (v := nI 16) C.hx C.hb dL_most_195 (by decide +kernel) ?_
  refine lv_icmp_ge (tgt := 219) C.hx C.hb dL_most_197 (by decide) (fun c9 => absurd c9 (by decide +kernel)) (fun _ => ?_)
  refine lv_aload_n C.hx C.hb dL_most_200 rfl (lv_at hl 1 rfl) ?_
  refine lv_iload_n C.hx C.hb dL_most_201 rfl (lv_at hl 0 rfl) ?_
  refine lv_iload_n C.hx C.hb dL_most_202 rfl (lv_at hl 0 rfl) ?_
  refine lv_iconst (v := nI 1) C.hx C.hb dL_most_203 (by decide +kernel) ?_
  refine lv_isub C.hx C.hb dL_most_204 ?_
  refine q_top (y := nI 10) (by decide +kernel) ?_
  refine q_cO (L := S151) (L' := S152) (As := [.int (nI 11), .int (nI 10)]) C hs hP hD hS (cs_join S152 11 10 0 (by decide +kernel)) k_X5_join kl_L_51 rfl hl rfl rfl (Nat.le_of_ble_eq_true rfl) ⟨⟨rfl, rfl⟩, Nat.le_of_ble_eq_true rfl, Nat.le_of_ble_eq_true rfl⟩ ⟨Nat.le_of_ble_eq_true rfl, Nat.le_of_ble_eq_true rfl⟩ dL_most_205 (fun g z H locs hs hP hD hS => ?_)
  refine lv_if_eq (tgt := 213) C.hx C.hb dL_most_208 (by decide) (fun _ => ?_) (fun c9 => absurd c9 (by decide +kernel))
  refine lv_iinc (v := nI 12) (lv' := [(1, .int (nI 12)), (0, .ref (ad 70))]) C.hx C.hb dL_most_213 hl (k := 0) rfl (by decide +kernel) (by decide) rfl (fun ls hl => ?_)
  refine lv_goto (tgt := 194) C.hx C.hb dL_most_216 (by decide) ?_
  refine lv_iload_n C.hx C.hb dL_most_194 rfl (lv_at hl 0 rfl) ?_
  refine lv_bipush (v := nI 16) C.hx C.hb dL_most_195 (by decide +kernel) ?_
  refine lv_icmp_ge (tgt := 219) C.hx C.hb dL_most_197 (by decide) (fun c9 => absurd c9 (by decide +kernel)) (fun _ => ?_)
  refine lv_aload_n C.hx C.hb dL_most_200 rfl (lv_at hl 1 rfl) ?_
  refine lv_iload_n C.hx C.hb dL_most_201 rfl (lv_at hl 0 rfl) ?_
  refine lv_iload_n C.hx C.hb dL_most_202 rfl (lv_at hl 0 rfl) ?_
  refine lv_iconst (v := nI 1) C.hx C.hb dL_most_203 (by decide +kernel) ?_
  refine lv_isub C.hx C.hb dL_most_204 ?_
  refine q_top (y := nI 11) (by decide +kernel) ?_
  refine q_cO (L := S152) (L' := S153) (As := [.int (nI 12), .int (nI 11)]) C hs hP hD hS (cs_join S153 12 11 0 (by decide +kernel)) k_X5_join kl_L_51 rfl hl rfl rfl (Nat.le_of_ble_eq_true rfl) ⟨⟨rfl, rfl⟩, Nat.le_of_ble_eq_true rfl, Nat.le_of_ble_eq_true rfl⟩ ⟨Nat.le_of_ble_eq_true rfl, Nat.le_of_ble_eq_true rfl⟩ dL_most_205 (fun g z H locs hs hP hD hS => ?_)
  refine lv_if_eq (tgt := 213) C.hx C.hb dL_most_208 (by decide) (fun _ => ?_) (fun c9 => absurd c9 (by decide +kernel))
  refine lv_iinc (v := nI 13) (lv' := [(1, .int (nI 13)), (0, .ref (ad 70))]) C.hx C.hb dL_most_213 hl (k := 0) rfl (by decide +kernel) (by decide) rfl (fun ls hl => ?_)
  refine lv_goto (tgt := 194) C.hx C.hb dL_most_216 (by decide) ?_
  refine lv_iload_n C.hx C.hb dL_most_194 rfl (lv_at hl 0 rfl) ?_
  refine lv_bipush (v := nI 16) C.hx C.hb dL_most_195 (by decide +kernel) ?_
  refine lv_icmp_ge (tgt := 219) C.hx C.hb dL_most_197 (by decide) (fun c9 => absurd c9 (by decide +kernel)) (fun _ => ?_)
  refine lv_aload_n C.hx C.hb dL_most_200 rfl (lv_at hl 1 rfl) ?_
  refine lv_iload_n C.hx C.hb dL_most_201 rfl (lv_at hl 0 rfl) ?_
  refine lv_iload_n C.hx C.hb dL_most_202 rfl (lv_at hl 0 rfl) ?_
  refine lv_iconst (v := nI 1) C.hx C.hb dL_most_203 (by decide +kernel) ?_
  refine lv_isub C.hx C.hb dL_most_204 ?_
  refine q_top (y := nI 12) (by decide +kernel) ?_
  refine q_cO (L := S153) (L' := S154) (As := [.int (nI 13), .int (nI 12)]) C hs hP hD hS (cs_join S154 13 12 0 (by decide +kernel)) k_X5_join kl_L_51 rfl hl rfl rfl (Nat.le_of_ble_eq_true rfl) ⟨⟨rfl, rfl⟩, Nat.le_of_ble_eq_true rfl, Nat.le_of_ble_eq_true rfl⟩ ⟨Nat.le_of_ble_eq_true rfl, Nat.le_of_ble_eq_true rfl⟩ dL_most_205 (fun g z H locs hs hP hD hS => ?_)
  refine lv_if_eq (tgt := 213) C.hx C.hb dL_most_208 (by decide) (fun _ => ?_) (fun c9 => absurd c9 (by decide +kernel))
  refine lv_iinc (v := nI 14) (lv' := [(1, .int (nI 14)), (0, .ref (ad 70))]) C.hx C.hb dL_most_213 hl (k := 0) rfl (by decide +kernel) (by decide) rfl (fun ls hl => ?_)
  refine lv_goto (tgt := 194) C.hx C.hb dL_most_216 (by decide) ?_
  refine lv_iload_n C.hx C.hb dL_most_194 rfl (lv_at hl 0 rfl) ?_
  refine lv_bipush (v := nI 16) C.hx C.hb dL_most_195 (by decide +kernel) ?_
  refine lv_icmp_ge (tgt := 219) C.hx C.hb dL_most_197 (by decide) (fun c9 => absurd c9 (by decide +kernel)) (fun _ => ?_)
  refine lv_aload_n C.hx C.hb dL_most_200 rfl (lv_at hl 1 rfl) ?_
  refine lv_iload_n C.hx C.hb dL_most_201 rfl (lv_at hl 0 rfl) ?_
  refine lv_iload_n C.hx C.hb dL_most_202 rfl (lv_at hl 0 rfl) ?_
  refine lv_iconst (v := nI 1) C.hx C.hb dL_most_203 (by decide +kernel) ?_
  refine lv_isub C.hx C.hb dL_most_204 ?_
  refine q_top (y := nI 13) (by decide +kernel) ?_
  refine q_cO (L := S154) (L' := S155) (As := [.int (nI 14), .int (nI 13)]) C hs hP hD hS (cs_join S155 14 13 0 (by decide +kernel)) k_X5_join kl_L_51 rfl hl rfl rfl (Nat.le_of_ble_eq_true rfl) ⟨⟨rfl, rfl⟩, Nat.le_of_ble_eq_true rfl, Nat.le_of_ble_eq_true rfl⟩ ⟨Nat.le_of_ble_eq_true rfl, Nat.le_of_ble_eq_true rfl⟩ dL_most_205 (fun g z H locs hs hP hD hS => ?_)
  refine lv_if_eq (tgt := 213) C.hx C.hb dL_most_208 (by decide) (fun _ => ?_) (fun c9 => absurd c9 (by decide +kernel))
  exact kk g z H locs ls hs hP hD hS hl

set_option maxRecDepth 100000 in
set_option maxHeartbeats 4000000 in
theorem tr_most_31 {p : Program} {l : Launch} {e : Env} {s : State} {m : MethodId} {args : Array Value} {below : List Frame} {meth : Method} {c : Code} {D : va_G} {cA : ClassId} {A : Nat → Prop} {ad : Nat → Nat} {Q : State → Prop} (C : lcx p l s m c cL_most 2 D cA A) (kk : ∀ (g : Nat → Nat → Int32) (z : Nat → Nat) (H : Heap) (locs : List Loc) (ls : Array Slot), isL S156 g z → va_P D vwCl (rlW cA ad g z) H → va_D A (rlW cA ad g z) → va_S A s.heap H locs → lv_has ls 2 [(1, .int (nI 16)), (0, .ref (ad 70))] → W p l e rm_Lmost s m args below meth c H locs 150 1477 Q (F0 m 311 ls [])) : ∀ (g : Nat → Nat → Int32) (z : Nat → Nat) (H : Heap) (locs : List Loc) (ls : Array Slot), isL S155 g z → va_P D vwCl (rlW cA ad g z) H → va_D A (rlW cA ad g z) → va_S A s.heap H locs → lv_has ls 2 [(1, .int (nI 14)), (0, .ref (ad 70))] → W p l e rm_Lmost s m args below meth c H locs 149 1471 Q (F0 m 213 ls []) := by
  intro g z H locs ls hs hP hD hS hl
  refine lv_iinc (v := nI 15) (lv' := [(1, .int (nI 15)), (0, .ref (ad 70))]) C.hx C.hb dL_most_213 hl (k := 0) rfl (by decide +kernel) (by decide) rfl (fun ls hl => ?_)
  refine lv_goto (tgt := 194) C.hx C.hb dL_most_216 (by decide) ?_
  refine lv_iload_n C.hx C.hb dL_most_194 rfl (lv_at hl 0 rfl) ?_
  refine lv_bipush (v := nI 16) C.hx C.hb dL_most_195 (by decide +kernel) ?_
  refine lv_icmp_ge (tgt := 219) C.hx C.hb dL_most_197 (by decide) (fun c9 => absurd c9 (by decide +kernel)) (fun _ => ?_)
  refine lv_aload_n C.hx C.hb dL_most_200 rfl (lv_at hl 1 rfl) ?_
  refine lv_iload_n C.hx C.hb dL_most_201 rfl (lv_at hl 0 rfl) ?_
  refine lv_iload_n C.hx C.hb dL_most_202 rfl (lv_at hl 0 rfl) ?_
  refine lv_iconst (v := nI 1) C.hx C.hb dL_most_203 (by decide +kernel) ?_
  refine lv_isub C.hx C.hb dL_most_204 ?_
  refine q_top (y := nI 14) (by decide +kernel) ?_
  refine q_cO (L := S155) (L' := S156) (As := [.int (nI 15), .int (nI 14)]) C hs hP hD hS (cs_join S156 15 14 0 (by decide +kernel)) k_X5_join kl_L_51 rfl hl rfl rfl (Nat.le_of_ble_eq_true rfl) ⟨⟨rfl, rfl⟩, Nat.le_of_ble_eq_true rfl, Nat.le_of_ble_eq_true rfl⟩ ⟨Nat.le_of_ble_eq_true rfl, Nat.le_of_ble_eq_true rfl⟩ dL_most_205 (fun g z H locs hs hP hD hS => ?_)
  refine lv_if_eq (tgt := 213) C.hx C.hb dL_most_208 (by decide) (fun _ => ?_) (fun c9 => absurd c9 (by decide +kernel))
  refine lv_iinc (v := nI 16) (lv' := [(1, .int (nI 16)), (0, .ref (ad 70))]) C.hx C.hb dL_most_213 hl (k := 0) rfl (by decide +kernel) (by decide) rfl (fun ls hl => ?_)
  refine lv_goto (tgt := 194) C.hx C.hb dL_most_216 (by decide) ?_
  refine lv_iload_n C.hx C.hb dL_most_194 rfl (lv_at hl 0 rfl) ?_
  refine lv_bipush (v := nI 16) C.hx C.hb dL_most_195 (by decide +kernel) ?_
  refine lv_icmp_ge (tgt := 219) C.hx C.hb dL_most_197 (by decide) (fun _ => ?_) (fun c9 => absurd c9 (by decide +kernel))
  refine lv_aload_n C.hx C.hb dL_most_219 rfl (lv_at hl 1 rfl) ?_
  refine lv_bipush (v := nI 39) C.hx C.hb dL_most_220 (by decide +kernel) ?_
  refine q_cO (L := S156) (L' := S156) (As := [.int (nI 39)]) C hs hP hD hS (cs_size 39 16 (by decide +kernel)) k_X5_size kl_L_64 rfl hl rfl rfl (Nat.le_of_ble_eq_true rfl) ⟨⟨rfl, rfl⟩, Nat.le_of_ble_eq_true rfl, Nat.le_of_ble_eq_true rfl⟩ ⟨Nat.le_of_ble_eq_true rfl, Nat.le_of_ble_eq_true rfl⟩ dL_most_222 (fun g z H locs hs hP hD hS => ?_)
  refine lv_bipush (v := nI 16) C.hx C.hb dL_most_225 (by decide +kernel) ?_
  refine lv_icmp_ne (tgt := 325) C.hx C.hb dL_most_227 (by decide) (fun c9 => absurd c9 (by decide +kernel)) (fun _ => ?_)
  refine lv_aload_n C.hx C.hb dL_most_230 rfl (lv_at hl 1 rfl) ?_
  refine lv_bipush (v := nI 7) C.hx C.hb dL_most_231 (by decide +kernel) ?_
  refine q_cO (L := S156) (L' := S156) (As := [.int (nI 7)]) C hs hP hD hS (cs_size 7 16 (by decide +kernel)) k_X5_size kl_L_64 rfl hl rfl rfl (Nat.le_of_ble_eq_true rfl) ⟨⟨rfl, rfl⟩, Nat.le_of_ble_eq_true rfl, Nat.le_of_ble_eq_true rfl⟩ ⟨Nat.le_of_ble_eq_true rfl, Nat.le_of_ble_eq_true rfl⟩ dL_most_233 (fun g z H locs hs hP hD hS => ?_)
  refine lv_bipush (v := nI 16) C.hx C.hb dL_most_236 (by decide +kernel) ?_
  refine lv_icmp_ne (tgt := 325) C.hx C.hb dL_most_238 (by decide) (fun c9 => absurd c9 (by decide +kernel)) (fun _ => ?_)
  refine lv_aload_n C.hx C.hb dL_most_241 rfl (lv_at hl 1 rfl) ?_
  refine lv_bipush (v := nI 20) C.hx C.hb dL_most_242 (by decide +kernel) ?_
  refine lv_bipush (v := nI 15) C.hx C.hb dL_most_244 (by decide +kernel) ?_
  refine q_cO (L := S156) (L' := S156) (As := [.int (nI 20), .int (nI 15)]) C hs hP hD hS (cs_careerAt 20 15 (nI 15) (by decide +kernel)) k_X5_careerAt kl_L_67 rfl hl rfl rfl (Nat.le_of_ble_eq_true rfl) ⟨⟨rfl, rfl⟩, Nat.le_of_ble_eq_true rfl, Nat.le_of_ble_eq_true rfl⟩ ⟨Nat.le_of_ble_eq_true rfl, Nat.le_of_ble_eq_true rfl⟩ dL_most_246 (fun g z H locs hs hP hD hS => ?_)
  refine lv_bipush (v := nI 15) C.hx C.hb dL_most_249 (by decide +kernel) ?_
  refine lv_icmp_ne (tgt := 325) C.hx C.hb dL_most_251 (by decide) (fun c9 => absurd c9 (by decide +kernel)) (fun _ => ?_)
  refine lv_aload_n C.hx C.hb dL_most_254 rfl (lv_at hl 1 rfl) ?_
  refine lv_iconst (v := nI 0) C.hx C.hb dL_most_255 (by decide +kernel) ?_
  refine lv_bipush (v := nI 16) C.hx C.hb dL_most_256 (by decide +kernel) ?_
  refine q_cO (L := S156) (L' := S156) (As := [.int (nI 0), .int (nI 16)]) C hs hP hD hS (cs_careerAt 0 16 (-1) (by decide +kernel)) k_X5_careerAt kl_L_67 rfl hl rfl rfl (Nat.le_of_ble_eq_true rfl) ⟨⟨rfl, rfl⟩, Nat.le_of_ble_eq_true rfl, Nat.le_of_ble_eq_true rfl⟩ ⟨Nat.le_of_ble_eq_true rfl, Nat.le_of_ble_eq_true rfl⟩ dL_most_258 (fun g z H locs hs hP hD hS => ?_)
  refine lv_iconst (v := -1) C.hx C.hb dL_most_261 (by decide +kernel) ?_
  refine lv_icmp_ne (tgt := 325) C.hx C.hb dL_most_262 (by decide) (fun c9 => absurd c9 (by decide +kernel)) (fun _ => ?_)
  refine lv_aload_n C.hx C.hb dL_most_265 rfl (lv_at hl 1 rfl) ?_
  refine q_cO (L := S156) (L' := S156) (As := []) C hs hP hD hS (cs_differ 120 (by decide +kernel)) k_X5_differ kl_L_98 rfl hl rfl rfl (Nat.le_of_ble_eq_true rfl) ⟨⟨rfl, rfl⟩, Nat.le_of_ble_eq_true rfl, Nat.le_of_ble_eq_true rfl⟩ ⟨Nat.le_of_ble_eq_true rfl, Nat.le_of_ble_eq_true rfl⟩ dL_most_266 (fun g z H locs hs hP hD hS => ?_)
  refine lv_bipush (v := nI 120) C.hx C.hb dL_most_269 (by decide +kernel) ?_
  refine lv_icmp_ne (tgt := 325) C.hx C.hb dL_most_271 (by decide) (fun c9 => absurd c9 (by decide +kernel)) (fun _ => ?_)
  refine lv_aload_n C.hx C.hb dL_most_274 rfl (lv_at hl 1 rfl) ?_
  refine lv_bipush (v := nI 63) C.hx C.hb dL_most_275 (by decide +kernel) ?_
  refine lv_bipush (v := nI 75) C.hx C.hb dL_most_277 (by decide +kernel) ?_
  refine q_cP (L := S156) (L' := S156) (r := nI 1) (c2 := 149) (s2 := 1471) (As := [.int (nI 63), .int (nI 75)]) C hs hP hD hS (cs_Lbest C.htr 63 75 (by decide +kernel)) k_L_best kl_L_113 hl rfl rfl (Nat.le_of_ble_eq_true rfl) ⟨Nat.le_of_ble_eq_true rfl, Nat.le_of_ble_eq_true rfl⟩ ⟨Nat.le_of_ble_eq_true rfl, Nat.le_of_ble_eq_true rfl⟩ ⟨Nat.le_of_ble_eq_true rfl, Nat.le_of_ble_eq_true rfl⟩ dL_most_279 (fun g z H locs hs hP hD hS => ?_)
  refine lv_if_eq (tgt := 325) C.hx C.hb dL_most_282 (by decide) (fun c9 => absurd c9 (by decide +kernel)) (fun _ => ?_)
  refine lv_aload_n C.hx C.hb dL_most_285 rfl (lv_at hl 1 rfl) ?_
  refine lv_ldc (v := 64512) C.hx C.hb C.hown (C.hT.use kk_L_136 args) dL_most_286 ?_
  refine q_top (y := nI 64512) (by decide +kernel) ?_
  refine lv_bipush (v := nI 75) C.hx C.hb dL_most_288 (by decide +kernel) ?_
  refine q_cP (L := S156) (L' := S156) (r := nI 1) (c2 := 149) (s2 := 1471) (As := [.int (nI 64512), .int (nI 75)]) C hs hP hD hS (cs_Lbest C.htr 64512 75 (by decide +kernel)) k_L_best kl_L_113 hl rfl rfl (Nat.le_of_ble_eq_true rfl) ⟨Nat.le_of_ble_eq_true rfl, Nat.le_of_ble_eq_true rfl⟩ ⟨Nat.le_of_ble_eq_true rfl, Nat.le_of_ble_eq_true rfl⟩ ⟨Nat.le_of_ble_eq_true rfl, Nat.le_of_ble_eq_true rfl⟩ dL_most_290 (fun g z H locs hs hP hD hS => ?_)
  refine lv_if_eq (tgt := 325) C.hx C.hb dL_most_293 (by decide) (fun c9 => absurd c9 (by decide +kernel)) (fun _ => ?_)
  refine lv_aload_n C.hx C.hb dL_most_296 rfl (lv_at hl 1 rfl) ?_
  refine lv_bipush (v := nI 13) C.hx C.hb dL_most_297 (by decide +kernel) ?_
  refine lv_iconst (v := nI 3) C.hx C.hb dL_most_299 (by decide +kernel) ?_
  refine lv_iconst (v := nI 0) C.hx C.hb dL_most_300 (by decide +kernel) ?_
  refine lv_iconst (v := nI 0) C.hx C.hb dL_most_301 (by decide +kernel) ?_
  refine lv_iconst (v := nI 0) C.hx C.hb dL_most_302 (by decide +kernel) ?_
  refine q_cA (L := S156) (L' := S156) (r := -7000003) (c2 := 150) (s2 := 1477) (As := [.int (nI 13), .int (nI 3), .int (nI 0), .int (nI 0), .int (nI 0)]) C hs hP hD hS (cx_split2 C.htr 3 (nI 0) (nI 0) (nI 0) (by decide +kernel)) kl_L_102 hl rfl rfl (Nat.le_of_ble_eq_true rfl) ⟨Nat.le_of_ble_eq_true rfl, Nat.le_of_ble_eq_true rfl⟩ ⟨Nat.le_of_ble_eq_true rfl, Nat.le_of_ble_eq_true rfl⟩ ⟨Nat.le_of_ble_eq_true rfl, Nat.le_of_ble_eq_true rfl⟩ dL_most_303 (fun g z H locs hs hP hD hS => ?_)
  refine lv_ldc (v := -7000003) C.hx C.hb C.hown (C.hT.use kk_L_96 args) dL_most_306 ?_
  refine lv_icmp_ne (tgt := 325) C.hx C.hb dL_most_308 (by decide) (fun c9 => absurd c9 (by decide +kernel)) (fun _ => ?_)
  exact kk g z H locs ls hs hP hD hS hl

set_option maxRecDepth 100000 in
set_option maxHeartbeats 4000000 in
theorem tr_most_32 {p : Program} {l : Launch} {e : Env} {s : State} {m : MethodId} {args : Array Value} {below : List Frame} {meth : Method} {c : Code} {D : va_G} {cA : ClassId} {A : Nat → Prop} {ad : Nat → Nat} {Q : State → Prop} (C : lcx p l s m c cL_most 2 D cA A) (kk : ∀ (g : Nat → Nat → Int32) (z : Nat → Nat) (H : Heap) (locs : List Loc) (ls : Array Slot), isL S161 g z → va_P D vwCl (rlW cA ad g z) H → va_D A (rlW cA ad g z) → va_S A s.heap H locs → lv_has ls 2 [(1, .int (nI 4)), (0, .ref (ad 70))] → W p l e rm_Lmost s m args below meth c H locs 151 1483 Q (F0 m 348 ls [])) : ∀ (g : Nat → Nat → Int32) (z : Nat → Nat) (H : Heap) (locs : List Loc) (ls : Array Slot), isL S156 g z → va_P D vwCl (rlW cA ad g z) H → va_D A (rlW cA ad g z) → va_S A s.heap H locs → lv_has ls 2 [(1, .int (nI 16)), (0, .ref (ad 70))] → W p l e rm_Lmost s m args below meth c H locs 150 1477 Q (F0 m 311 ls []) := by
  intro g z H locs ls hs hP hD hS hl
  refine lv_aload_n C.hx C.hb dL_most_311 rfl (lv_at hl 1 rfl) ?_
  refine lv_iconst (v := nI 0) C.hx C.hb dL_most_312 (by decide +kernel) ?_
  refine lv_iconst (v := nI 0) C.hx C.hb dL_most_313 (by decide +kernel) ?_
  refine lv_iconst (v := nI 0) C.hx C.hb dL_most_314 (by decide +kernel) ?_
  refine lv_iconst (v := nI 0) C.hx C.hb dL_most_315 (by decide +kernel) ?_
  refine lv_iconst (v := nI 0) C.hx C.hb dL_most_316 (by decide +kernel) ?_
  refine q_cA (L := S156) (L' := S156) (r := -7000003) (c2 := 151) (s2 := 1483) (As := [.int (nI 0), .int (nI 0), .int (nI 0), .int (nI 0), .int (nI 0)]) C hs hP hD hS (cx_mention C.htr (nI 0) (nI 0) (nI 0) (nI 0) (Or.inr (q_r_nI (by decide))) (by decide +kernel)) kl_L_102 hl rfl rfl (Nat.le_of_ble_eq_true rfl) ⟨Nat.le_of_ble_eq_true rfl, Nat.le_of_ble_eq_true rfl⟩ ⟨Nat.le_of_ble_eq_true rfl, Nat.le_of_ble_eq_true rfl⟩ ⟨Nat.le_of_ble_eq_true rfl, Nat.le_of_ble_eq_true rfl⟩ dL_most_317 (fun g z H locs hs hP hD hS => ?_)
  refine lv_ldc (v := -7000003) C.hx C.hb C.hown (C.hT.use kk_L_96 args) dL_most_320 ?_
  refine lv_icmp_eq (tgt := 327) C.hx C.hb dL_most_322 (by decide) (fun _ => ?_) (fun c9 => absurd c9 (by decide +kernel))
  refine lv_iconst (v := nI 0) C.hx C.hb dL_most_327 (by decide +kernel) ?_
  refine lv_istore_n (lv' := [(1, .int (nI 0)), (0, .ref (ad 70))]) C.hx C.hb dL_most_328 rfl hl (by decide) rfl (fun ls hl => ?_)
  refine lv_iload_n C.hx C.hb dL_most_329 rfl (lv_at hl 0 rfl) ?_
  refine lv_bipush (v := nI 16) C.hx C.hb dL_most_330 (by decide +kernel) ?_
  refine lv_icmp_ge (tgt := 354) C.hx C.hb dL_most_332 (by decide) (fun c9 => absurd c9 (by decide +kernel)) (fun _ => ?_)
  refine lv_aload_n C.hx C.hb dL_most_335 rfl (lv_at hl 1 rfl) ?_
  refine lv_iload_n C.hx C.hb dL_most_336 rfl (lv_at hl 0 rfl) ?_
  refine lv_bipush (v := nI 15) C.hx C.hb dL_most_337 (by decide +kernel) ?_
  refine q_cO (L := S156) (L' := S157) (As := [.int (nI 0), .int (nI 15)]) C hs hP hD hS (cs_rival S157 0 (nI 15) (-1) (by decide +kernel)) k_X5_rival kl_L_85 rfl hl rfl rfl (Nat.le_of_ble_eq_true rfl) ⟨⟨rfl, rfl⟩, Nat.le_of_ble_eq_true rfl, Nat.le_of_ble_eq_true rfl⟩ ⟨Nat.le_of_ble_eq_true rfl, Nat.le_of_ble_eq_true rfl⟩ dL_most_339 (fun g z H locs hs hP hD hS => ?_)
  refine lv_iconst (v := -1) C.hx C.hb dL_most_342 (by decide +kernel) ?_
  refine lv_icmp_eq (tgt := 348) C.hx C.hb dL_most_343 (by decide) (fun _ => ?_) (fun c9 => absurd c9 (by decide +kernel))
  refine lv_iinc (v := nI 1) (lv' := [(1, .int (nI 1)), (0, .ref (ad 70))]) C.hx C.hb dL_most_348 hl (k := 0) rfl (by decide +kernel) (by decide) rfl (fun ls hl => ?_)
  refine lv_goto (tgt := 329) C.hx C.hb dL_most_351 (by decide) ?_
  refine lv_iload_n C.hx C.hb dL_most_329 rfl (lv_at hl 0 rfl) ?_
  refine lv_bipush (v := nI 16) C.hx C.hb dL_most_330 (by decide +kernel) ?_
  refine lv_icmp_ge (tgt := 354) C.hx C.hb dL_most_332 (by decide) (fun c9 => absurd c9 (by decide +kernel)) (fun _ => ?_)
  refine lv_aload_n C.hx C.hb dL_most_335 rfl (lv_at hl 1 rfl) ?_
  refine lv_iload_n C.hx C.hb dL_most_336 rfl (lv_at hl 0 rfl) ?_
  refine lv_bipush (v := nI 15) C.hx C.hb dL_most_337 (by decide +kernel) ?_
  refine q_cO (L := S157) (L' := S158) (As := [.int (nI 1), .int (nI 15)]) C hs hP hD hS (cs_rival S158 1 (nI 15) (-1) (by decide +kernel)) k_X5_rival kl_L_85 rfl hl rfl rfl (Nat.le_of_ble_eq_true rfl) ⟨⟨rfl, rfl⟩, Nat.le_of_ble_eq_true rfl, Nat.le_of_ble_eq_true rfl⟩ ⟨Nat.le_of_ble_eq_true rfl, Nat.le_of_ble_eq_true rfl⟩ dL_most_339 (fun g z H locs hs hP hD hS => ?_)
  refine lv_iconst (v := -1) C.hx C.hb dL_most_342 (by decide +kernel) ?_
  refine lv_icmp_eq (tgt := 348) C.hx C.hb dL_most_343 (by decide) (fun _ => ?_) (fun c9 => absurd c9 (by decide +kernel))
  refine lv_iinc (v := nI 2) (lv' := [(1, .int (nI 2)), (0, .ref (ad 70))]) C.hx C.hb dL_most_348 hl (k := 0) rfl (by decide +kernel) (by decide) rfl (fun ls hl => ?_)
  refine lv_goto (tgt := 329) C.hx C.hb dL_most_351 (by decide) ?_
  refine lv_iload_n C.hx C.hb dL_most_329 rfl (lv_at hl 0 rfl) ?_
  refine lv_bipush (v := nI 16) C.hx C.hb dL_most_330 (by decide +kernel) ?_
  refine lv_icmp_ge (tgt := 354) C.hx C.hb dL_most_332 (by decide) (fun c9 => absurd c9 (by decide +kernel)) (fun _ => ?_)
  refine lv_aload_n C.hx C.hb dL_most_335 rfl (lv_at hl 1 rfl) ?_
  refine lv_iload_n C.hx C.hb dL_most_336 rfl (lv_at hl 0 rfl) ?_
  refine lv_bipush (v := nI 15) C.hx C.hb dL_most_337 (by decide +kernel) ?_
  refine q_cO (L := S158) (L' := S159) (As := [.int (nI 2), .int (nI 15)]) C hs hP hD hS (cs_rival S159 2 (nI 15) (-1) (by decide +kernel)) k_X5_rival kl_L_85 rfl hl rfl rfl (Nat.le_of_ble_eq_true rfl) ⟨⟨rfl, rfl⟩, Nat.le_of_ble_eq_true rfl, Nat.le_of_ble_eq_true rfl⟩ ⟨Nat.le_of_ble_eq_true rfl, Nat.le_of_ble_eq_true rfl⟩ dL_most_339 (fun g z H locs hs hP hD hS => ?_)
  refine lv_iconst (v := -1) C.hx C.hb dL_most_342 (by decide +kernel) ?_
  refine lv_icmp_eq (tgt := 348) C.hx C.hb dL_most_343 (by decide) (fun _ => ?_) (fun c9 => absurd c9 (by decide +kernel))
  refine lv_iinc (v := nI 3) (lv' := [(1, .int (nI 3)), (0, .ref (ad 70))]) C.hx C.hb dL_most_348 hl (k := 0) rfl (by decide +kernel) (by decide) rfl (fun ls hl => ?_)
  refine lv_goto (tgt := 329) C.hx C.hb dL_most_351 (by decide) ?_
  refine lv_iload_n C.hx C.hb dL_most_329 rfl (lv_at hl 0 rfl) ?_
  refine lv_bipush (v := nI 16) C.hx C.hb dL_most_330 (by decide +kernel) ?_
  refine lv_icmp_ge (tgt := 354) C.hx C.hb dL_most_332 (by decide) (fun c9 => absurd c9 (by decide +kernel)) (fun _ => ?_)
  refine lv_aload_n C.hx C.hb dL_most_335 rfl (lv_at hl 1 rfl) ?_
  refine lv_iload_n C.hx C.hb dL_most_336 rfl (lv_at hl 0 rfl) ?_
  refine lv_bipush (v := nI 15) C.hx C.hb dL_most_337 (by decide +kernel) ?_
  refine q_cO (L := S159) (L' := S160) (As := [.int (nI 3), .int (nI 15)]) C hs hP hD hS (cs_rival S160 3 (nI 15) (-1) (by decide +kernel)) k_X5_rival kl_L_85 rfl hl rfl rfl (Nat.le_of_ble_eq_true rfl) ⟨⟨rfl, rfl⟩, Nat.le_of_ble_eq_true rfl, Nat.le_of_ble_eq_true rfl⟩ ⟨Nat.le_of_ble_eq_true rfl, Nat.le_of_ble_eq_true rfl⟩ dL_most_339 (fun g z H locs hs hP hD hS => ?_)
  refine lv_iconst (v := -1) C.hx C.hb dL_most_342 (by decide +kernel) ?_
  refine lv_icmp_eq (tgt := 348) C.hx C.hb dL_most_343 (by decide) (fun _ => ?_) (fun c9 => absurd c9 (by decide +kernel))
  refine lv_iinc (v := nI 4) (lv' := [(1, .int (nI 4)), (0, .ref (ad 70))]) C.hx C.hb dL_most_348 hl (k := 0) rfl (by decide +kernel) (by decide) rfl (fun ls hl => ?_)
  refine lv_goto (tgt := 329) C.hx C.hb dL_most_351 (by decide) ?_
  refine lv_iload_n C.hx C.hb dL_most_329 rfl (lv_at hl 0 rfl) ?_
  refine lv_bipush (v := nI 16) C.hx C.hb dL_most_330 (by decide +kernel) ?_
  refine lv_icmp_ge (tgt := 354) C.hx C.hb dL_most_332 (by decide) (fun c9 => absurd c9 (by decide +kernel)) (fun _ => ?_)
  refine lv_aload_n C.hx C.hb dL_most_335 rfl (lv_at hl 1 rfl) ?_
  refine lv_iload_n C.hx C.hb dL_most_336 rfl (lv_at hl 0 rfl) ?_
  refine lv_bipush (v := nI 15) C.hx C.hb dL_most_337 (by decide +kernel) ?_
  refine q_cO (L := S160) (L' := S161) (As := [.int (nI 4), .int (nI 15)]) C hs hP hD hS (cs_rival S161 4 (nI 15) (-1) (by decide +kernel)) k_X5_rival kl_L_85 rfl hl rfl rfl (Nat.le_of_ble_eq_true rfl) ⟨⟨rfl, rfl⟩, Nat.le_of_ble_eq_true rfl, Nat.le_of_ble_eq_true rfl⟩ ⟨Nat.le_of_ble_eq_true rfl, Nat.le_of_ble_eq_true rfl⟩ dL_most_339 (fun g z H locs hs hP hD hS => ?_)
  refine lv_iconst (v := -1) C.hx C.hb dL_most_342 (by decide +kernel) ?_
  refine lv_icmp_eq (tgt := 348) C.hx C.hb dL_most_343 (by decide) (fun _ => ?_) (fun c9 => absurd c9 (by decide +kernel))
  exact kk g z H locs ls hs hP hD hS hl

set_option maxRecDepth 100000 in
set_option maxHeartbeats 4000000 in
theorem tr_most_33 {p : Program} {l : Launch} {e : Env} {s : State} {m : MethodId} {args : Array Value} {below : List Frame} {meth : Method} {c : Code} {D : va_G} {cA : ClassId} {A : Nat → Prop} {ad : Nat → Nat} {Q : State → Prop} (C : lcx p l s m c cL_most 2 D cA A) (kk : ∀ (g : Nat → Nat → Int32) (z : Nat → Nat) (H : Heap) (locs : List Loc) (ls : Array Slot), isL S167 g z → va_P D vwCl (rlW cA ad g z) H → va_D A (rlW cA ad g z) → va_S A s.heap H locs → lv_has ls 2 [(1, .int (nI 10)), (0, .ref (ad 70))] → W p l e rm_Lmost s m args below meth c H locs 151 1483 Q (F0 m 348 ls [])) : ∀ (g : Nat → Nat → Int32) (z : Nat → Nat) (H : Heap) (locs : List Loc) (ls : Array Slot), isL S161 g z → va_P D vwCl (rlW cA ad g z) H → va_D A (rlW cA ad g z) → va_S A s.heap H locs → lv_has ls 2 [(1, .int (nI 4)), (0, .ref (ad 70))] → W p l e rm_Lmost s m args below meth c H locs 151 1483 Q (F0 m 348 ls []) := by
  intro g z H locs ls hs hP hD hS hl
  refine lv_iinc (v := nI 5) (lv' := [(1, .int (nI 5)), (0, .ref (ad 70))]) C.hx C.hb dL_most_348 hl (k := 0) rfl (by decide +kernel) (by decide) rfl (fun ls hl => ?_)
  refine lv_goto (tgt := 329) C.hx C.hb dL_most_351 (by decide) ?_
  refine lv_iload_n C.hx C.hb dL_most_329 rfl (lv_at hl 0 rfl) ?_
  refine lv_bipush (v := nI 16) C.hx C.hb dL_most_330 (by decide +kernel) ?_
  refine lv_icmp_ge (tgt := 354) C.hx C.hb dL_most_332 (by decide) (fun c9 => absurd c9 (by decide +kernel)) (fun _ => ?_)
  refine lv_aload_n C.hx C.hb dL_most_335 rfl (lv_at hl 1 rfl) ?_
  refine lv_iload_n C.hx C.hb dL_most_336 rfl (lv_at hl 0 rfl) ?_
  refine lv_bipush (v := nI 15) C.hx C.hb dL_most_337 (by decide +kernel) ?_
  refine q_cO (L := S161) (L' := S162) (As := [.int (nI 5), .int (nI 15)]) C hs hP hD hS (cs_rival S162 5 (nI 15) (-1) (by decide +kernel)) k_X5_rival kl_L_85 rfl hl rfl rfl (Nat.le_of_ble_eq_true rfl) ⟨⟨rfl, rfl⟩, Nat.le_of_ble_eq_true rfl, Nat.le_of_ble_eq_true rfl⟩ ⟨Nat.le_of_ble_eq_true rfl, Nat.le_of_ble_eq_true rfl⟩ dL_most_339 (fun g z H locs hs hP hD hS => ?_)
  refine lv_iconst (v := -1) C.hx C.hb dL_most_342 (by decide +kernel) ?_
  refine lv_icmp_eq (tgt := 348) C.hx C.hb dL_most_343 (by decide) (fun _ => ?_) (fun c9 => absurd c9 (by decide +kernel))
  refine lv_iinc (v := nI 6) (lv' := [(1, .int (nI 6)), (0, .ref (ad 70))]) C.hx C.hb dL_most_348 hl (k := 0) rfl (by decide +kernel) (by decide) rfl (fun ls hl => ?_)
  refine lv_goto (tgt := 329) C.hx C.hb dL_most_351 (by decide) ?_
  refine lv_iload_n C.hx C.hb dL_most_329 rfl (lv_at hl 0 rfl) ?_
  refine lv_bipush (v := nI 16) C.hx C.hb dL_most_330 (by decide +kernel) ?_
  refine lv_icmp_ge (tgt := 354) C.hx C.hb dL_most_332 (by decide) (fun c9 => absurd c9 (by decide +kernel)) (fun _ => ?_)
  refine lv_aload_n C.hx C.hb dL_most_335 rfl (lv_at hl 1 rfl) ?_
  refine lv_iload_n C.hx C.hb dL_most_336 rfl (lv_at hl 0 rfl) ?_
  refine lv_bipush (v := nI 15) C.hx C.hb dL_most_337 (by decide +kernel) ?_
  refine q_cO (L := S162) (L' := S163) (As := [.int (nI 6), .int (nI 15)]) C hs hP hD hS (cs_rival S163 6 (nI 15) (-1) (by decide +kernel)) k_X5_rival kl_L_85 rfl hl rfl rfl (Nat.le_of_ble_eq_true rfl) ⟨⟨rfl, rfl⟩, Nat.le_of_ble_eq_true rfl, Nat.le_of_ble_eq_true rfl⟩ ⟨Nat.le_of_ble_eq_true rfl, Nat.le_of_ble_eq_true rfl⟩ dL_most_339 (fun g z H locs hs hP hD hS => ?_)
  refine lv_iconst (v := -1) C.hx C.hb dL_most_342 (by decide +kernel) ?_
  refine lv_icmp_eq (tgt := 348) C.hx C.hb dL_most_343 (by decide) (fun _ => ?_) (fun c9 => absurd c9 (by decide +kernel))
  refine lv_iinc (v := nI 7) (lv' := [(1, .int (nI 7)), (0, .ref (ad 70))]) C.hx C.hb dL_most_348 hl (k := 0) rfl (by decide +kernel) (by decide) rfl (fun ls hl => ?_)
  refine lv_goto (tgt := 329) C.hx C.hb dL_most_351 (by decide) ?_
  refine lv_iload_n C.hx C.hb dL_most_329 rfl (lv_at hl 0 rfl) ?_
  refine lv_bipush (v := nI 16) C.hx C.hb dL_most_330 (by decide +kernel) ?_
  refine lv_icmp_ge (tgt := 354) C.hx C.hb dL_most_332 (by decide) (fun c9 => absurd c9 (by decide +kernel)) (fun _ => ?_)
  refine lv_aload_n C.hx C.hb dL_most_335 rfl (lv_at hl 1 rfl) ?_
  refine lv_iload_n C.hx C.hb dL_most_336 rfl (lv_at hl 0 rfl) ?_
  refine lv_bipush (v := nI 15) C.hx C.hb dL_most_337 (by decide +kernel) ?_
  refine q_cO (L := S163) (L' := S164) (As := [.int (nI 7), .int (nI 15)]) C hs hP hD hS (cs_rival S164 7 (nI 15) (-1) (by decide +kernel)) k_X5_rival kl_L_85 rfl hl rfl rfl (Nat.le_of_ble_eq_true rfl) ⟨⟨rfl, rfl⟩, Nat.le_of_ble_eq_true rfl, Nat.le_of_ble_eq_true rfl⟩ ⟨Nat.le_of_ble_eq_true rfl, Nat.le_of_ble_eq_true rfl⟩ dL_most_339 (fun g z H locs hs hP hD hS => ?_)
  refine lv_iconst (v := -1) C.hx C.hb dL_most_342 (by decide +kernel) ?_
  refine lv_icmp_eq (tgt := 348) C.hx C.hb dL_most_343 (by decide) (fun _ => ?_) (fun c9 => absurd c9 (by decide +kernel))
  refine lv_iinc (v := nI 8) (lv' := [(1, .int (nI 8)), (0, .ref (ad 70))]) C.hx C.hb dL_most_348 hl (k := 0) rfl (by decide +kernel) (by decide) rfl (fun ls hl => ?_)
  refine lv_goto (tgt := 329) C.hx C.hb dL_most_351 (by decide) ?_
  refine lv_iload_n C.hx C.hb dL_most_329 rfl (lv_at hl 0 rfl) ?_
  refine lv_bipush (v := nI 16) C.hx C.hb dL_most_330 (by decide +kernel) ?_
  refine lv_icmp_ge (tgt := 354) C.hx C.hb dL_most_332 (by decide) (fun c9 => absurd c9 (by decide +kernel)) (fun _ => ?_)
  refine lv_aload_n C.hx C.hb dL_most_335 rfl (lv_at hl 1 rfl) ?_
  refine lv_iload_n C.hx C.hb dL_most_336 rfl (lv_at hl 0 rfl) ?_
  refine lv_bipush (v := nI 15) C.hx C.hb dL_most_337 (by decide +kernel) ?_
  refine q_cO (L := S164) (L' := S165) (As := [.int (nI 8), .int (nI 15)]) C hs hP hD hS (cs_rival S165 8 (nI 15) (-1) (by decide +kernel)) k_X5_rival kl_L_85 rfl hl rfl rfl (Nat.le_of_ble_eq_true rfl) ⟨⟨rfl, rfl⟩, Nat.le_of_ble_eq_true rfl, Nat.le_of_ble_eq_true rfl⟩ ⟨Nat.le_of_ble_eq_true rfl, Nat.le_of_ble_eq_true rfl⟩ dL_most_339 (fun g z H locs hs hP hD hS => ?_)
  refine lv_iconst (v := -1) C.hx C.hb dL_most_342 (by decide +kernel) ?_
  refine lv_icmp_eq (tgt := 348) C.hx C.hb dL_most_343 (by decide) (fun _ => ?_) (fun c9 => absurd c9 (by decide +kernel))
  refine lv_iinc (v := nI 9) (lv' := [(1, .int (nI 9)), (0, .ref (ad 70))]) C.hx C.hb dL_most_348 hl (k := 0) rfl (by decide +kernel) (by decide) rfl (fun ls hl => ?_)
  refine lv_goto (tgt := 329) C.hx C.hb dL_most_351 (by decide) ?_
  refine lv_iload_n C.hx C.hb dL_most_329 rfl (lv_at hl 0 rfl) ?_
  refine lv_bipush (v := nI 16) C.hx C.hb dL_most_330 (by decide +kernel) ?_
  refine lv_icmp_ge (tgt := 354) C.hx C.hb dL_most_332 (by decide) (fun c9 => absurd c9 (by decide +kernel)) (fun _ => ?_)
  refine lv_aload_n C.hx C.hb dL_most_335 rfl (lv_at hl 1 rfl) ?_
  refine lv_iload_n C.hx C.hb dL_most_336 rfl (lv_at hl 0 rfl) ?_
  refine lv_bipush (v := nI 15) C.hx C.hb dL_most_337 (by decide +kernel) ?_
  refine q_cO (L := S165) (L' := S166) (As := [.int (nI 9), .int (nI 15)]) C hs hP hD hS (cs_rival S166 9 (nI 15) (-1) (by decide +kernel)) k_X5_rival kl_L_85 rfl hl rfl rfl (Nat.le_of_ble_eq_true rfl) ⟨⟨rfl, rfl⟩, Nat.le_of_ble_eq_true rfl, Nat.le_of_ble_eq_true rfl⟩ ⟨Nat.le_of_ble_eq_true rfl, Nat.le_of_ble_eq_true rfl⟩ dL_most_339 (fun g z H locs hs hP hD hS => ?_)
  refine lv_iconst (v := -1) C.hx C.hb dL_most_342 (by decide +kernel) ?_
  refine lv_icmp_eq (tgt := 348) C.hx C.hb dL_most_343 (by decide) (fun _ => ?_) (fun c9 => absurd c9 (by decide +kernel))
  refine lv_iinc (v := nI 10) (lv' := [(1, .int (nI 10)), (0, .ref (ad 70))]) C.hx C.hb dL_most_348 hl (k := 0) rfl (by decide +kernel) (by decide) rfl (fun ls hl => ?_)
  refine lv_goto (tgt := 329) C.hx C.hb dL_most_351 (by decide) ?_
  refine lv_iload_n C.hx C.hb dL_most_329 rfl (lv_at hl 0 rfl) ?_
  refine lv_bipush (v := nI 16) C.hx C.hb dL_most_330 (by decide +kernel) ?_
  refine lv_icmp_ge (tgt := 354) C.hx C.hb dL_most_332 (by decide) (fun c9 => absurd c9 (by decide +kernel)) (fun _ => ?_)
  refine lv_aload_n C.hx C.hb dL_most_335 rfl (lv_at hl 1 rfl) ?_
  refine lv_iload_n C.hx C.hb dL_most_336 rfl (lv_at hl 0 rfl) ?_
  refine lv_bipush (v := nI 15) C.hx C.hb dL_most_337 (by decide +kernel) ?_
  refine q_cO (L := S166) (L' := S167) (As := [.int (nI 10), .int (nI 15)]) C hs hP hD hS (cs_rival S167 10 (nI 15) (-1) (by decide +kernel)) k_X5_rival kl_L_85 rfl hl rfl rfl (Nat.le_of_ble_eq_true rfl) ⟨⟨rfl, rfl⟩, Nat.le_of_ble_eq_true rfl, Nat.le_of_ble_eq_true rfl⟩ ⟨Nat.le_of_ble_eq_true rfl, Nat.le_of_ble_eq_true rfl⟩ dL_most_339 (fun g z H locs hs hP hD hS => ?_)
  refine lv_iconst (v := -1) C.hx C.hb dL_most_342 (by decide +kernel) ?_
  refine lv_icmp_eq (tgt := 348) C.hx C.hb dL_most_343 (by decide) (fun _ => ?_) (fun c9 => absurd c9 (by decide +kernel))
  exact kk g z H locs ls hs hP hD hS hl

set_option maxRecDepth 100000 in
set_option maxHeartbeats 4000000 in
theorem tr_most_34 {p : Program} {l : Launch} {e : Env} {s : State} {m : MethodId} {args : Array Value} {below : List Frame} {meth : Method} {c : Code} {D : va_G} {cA : ClassId} {A : Nat → Prop} {ad : Nat → Nat} {Q : State → Prop} (C : lcx p l s m c cL_most 2 D cA A) (kk : ∀ (g : Nat → Nat → Int32) (z : Nat → Nat) (H : Heap) (locs : List Loc) (ls : Array Slot), isL S172 g z → va_P D vwCl (rlW cA ad g z) H → va_D A (rlW cA ad g z) → va_S A s.heap H locs → lv_has ls 2 [(1, .int (nI 16)), (0, .ref (ad 70))] → W p l e rm_Lmost s m args below meth c H locs 151 1483 Q (F0 m 361 ls [])) : ∀ (g : Nat → Nat → Int32) (z : Nat → Nat) (H : Heap) (locs : List Loc) (ls : Array Slot), isL S167 g z → va_P D vwCl (rlW cA ad g z) H → va_D A (rlW cA ad g z) → va_S A s.heap H locs → lv_has ls 2 [(1, .int (nI 10)), (0, .ref (ad 70))] → W p l e rm_Lmost s m args below meth c H locs 151 1483 Q (F0 m 348 ls []) := by
  intro g z H locs ls hs hP hD hS hl
  refine lv_iinc (v := nI 11) (lv' := [(1, .int (nI 11)), (0, .ref (ad 70))]) C.hx C.hb dL_most_348 hl (k := 0) rfl (by decide +kernel) (by decide) rfl (fun ls hl => ?_)
  refine lv_goto (tgt := 329) C.hx C.hb dL_most_351 (by decide) ?_
  refine lv_iload_n C.hx C.hb dL_most_329 rfl (lv_at hl 0 rfl) ?_
  refine lv_bipush (v := nI 16) C.hx C.hb dL_most_330 (by decide +kernel) ?_
  refine lv_icmp_ge (tgt := 354) C.hx C.hb dL_most_332 (by decide) (fun c9 => absurd c9 (by decide +kernel)) (fun _ => ?_)
  refine lv_aload_n C.hx C.hb dL_most_335 rfl (lv_at hl 1 rfl) ?_
  refine lv_iload_n C.hx C.hb dL_most_336 rfl (lv_at hl 0 rfl) ?_
  refine lv_bipush (v := nI 15) C.hx C.hb dL_most_337 (by decide +kernel) ?_
  refine q_cO (L := S167) (L' := S168) (As := [.int (nI 11), .int (nI 15)]) C hs hP hD hS (cs_rival S168 11 (nI 15) (-1) (by decide +kernel)) k_X5_rival kl_L_85 rfl hl rfl rfl (Nat.le_of_ble_eq_true rfl) ⟨⟨rfl, rfl⟩, Nat.le_of_ble_eq_true rfl, Nat.le_of_ble_eq_true rfl⟩ ⟨Nat.le_of_ble_eq_true rfl, Nat.le_of_ble_eq_true rfl⟩ dL_most_339 (fun g z H locs hs hP hD hS => ?_)
  refine lv_iconst (v := -1) C.hx C.hb dL_most_342 (by decide +kernel) ?_
  refine lv_icmp_eq (tgt := 348) C.hx C.hb dL_most_343 (by decide) (fun _ => ?_) (fun c9 => absurd c9 (by decide +kernel))
  refine lv_iinc (v := nI 12) (lv' := [(1, .int (nI 12)), (0, .ref (ad 70))]) C.hx C.hb dL_most_348 hl (k := 0) rfl (by decide +kernel) (by decide) rfl (fun ls hl => ?_)
  refine lv_goto (tgt := 329) C.hx C.hb dL_most_351 (by decide) ?_
  refine lv_iload_n C.hx C.hb dL_most_329 rfl (lv_at hl 0 rfl) ?_
  refine lv_bipush (v := nI 16) C.hx C.hb dL_most_330 (by decide +kernel) ?_
  refine lv_icmp_ge (tgt := 354) C.hx C.hb dL_most_332 (by decide) (fun c9 => absurd c9 (by decide +kernel)) (fun _ => ?_)
  refine lv_aload_n C.hx C.hb dL_most_335 rfl (lv_at hl 1 rfl) ?_
  refine lv_iload_n C.hx C.hb dL_most_336 rfl (lv_at hl 0 rfl) ?_
  refine lv_bipush (v := nI 15) C.hx C.hb dL_most_337 (by decide +kernel) ?_
  refine q_cO (L := S168) (L' := S169) (As := [.int (nI 12), .int (nI 15)]) C hs hP hD hS (cs_rival S169 12 (nI 15) (-1) (by decide +kernel)) k_X5_rival kl_L_85 rfl hl rfl rfl (Nat.le_of_ble_eq_true rfl) ⟨⟨rfl, rfl⟩, Nat.le_of_ble_eq_true rfl, Nat.le_of_ble_eq_true rfl⟩ ⟨Nat.le_of_ble_eq_true rfl, Nat.le_of_ble_eq_true rfl⟩ dL_most_339 (fun g z H locs hs hP hD hS => ?_)
  refine lv_iconst (v := -1) C.hx C.hb dL_most_342 (by decide +kernel) ?_
  refine lv_icmp_eq (tgt := 348) C.hx C.hb dL_most_343 (by decide) (fun _ => ?_) (fun c9 => absurd c9 (by decide +kernel))
  refine lv_iinc (v := nI 13) (lv' := [(1, .int (nI 13)), (0, .ref (ad 70))]) C.hx C.hb dL_most_348 hl (k := 0) rfl (by decide +kernel) (by decide) rfl (fun ls hl => ?_)
  refine lv_goto (tgt := 329) C.hx C.hb dL_most_351 (by decide) ?_
  refine lv_iload_n C.hx C.hb dL_most_329 rfl (lv_at hl 0 rfl) ?_
  refine lv_bipush (v := nI 16) C.hx C.hb dL_most_330 (by decide +kernel) ?_
  refine lv_icmp_ge (tgt := 354) C.hx C.hb dL_most_332 (by decide) (fun c9 => absurd c9 (by decide +kernel)) (fun _ => ?_)
  refine lv_aload_n C.hx C.hb dL_most_335 rfl (lv_at hl 1 rfl) ?_
  refine lv_iload_n C.hx C.hb dL_most_336 rfl (lv_at hl 0 rfl) ?_
  refine lv_bipush (v := nI 15) C.hx C.hb dL_most_337 (by decide +kernel) ?_
  refine q_cO (L := S169) (L' := S170) (As := [.int (nI 13), .int (nI 15)]) C hs hP hD hS (cs_rival S170 13 (nI 15) (-1) (by decide +kernel)) k_X5_rival kl_L_85 rfl hl rfl rfl (Nat.le_of_ble_eq_true rfl) ⟨⟨rfl, rfl⟩, Nat.le_of_ble_eq_true rfl, Nat.le_of_ble_eq_true rfl⟩ ⟨Nat.le_of_ble_eq_true rfl, Nat.le_of_ble_eq_true rfl⟩ dL_most_339 (fun g z H locs hs hP hD hS => ?_)
  refine lv_iconst (v := -1) C.hx C.hb dL_most_342 (by decide +kernel) ?_
  refine lv_icmp_eq (tgt := 348) C.hx C.hb dL_most_343 (by decide) (fun _ => ?_) (fun c9 => absurd c9 (by decide +kernel))
  refine lv_iinc (v := nI 14) (lv' := [(1, .int (nI 14)), (0, .ref (ad 70))]) C.hx C.hb dL_most_348 hl (k := 0) rfl (by decide +kernel) (by decide) rfl (fun ls hl => ?_)
  refine lv_goto (tgt := 329) C.hx C.hb dL_most_351 (by decide) ?_
  refine lv_iload_n C.hx C.hb dL_most_329 rfl (lv_at hl 0 rfl) ?_
  refine lv_bipush (v := nI 16) C.hx C.hb dL_most_330 (by decide +kernel) ?_
  refine lv_icmp_ge (tgt := 354) C.hx C.hb dL_most_332 (by decide) (fun c9 => absurd c9 (by decide +kernel)) (fun _ => ?_)
  refine lv_aload_n C.hx C.hb dL_most_335 rfl (lv_at hl 1 rfl) ?_
  refine lv_iload_n C.hx C.hb dL_most_336 rfl (lv_at hl 0 rfl) ?_
  refine lv_bipush (v := nI 15) C.hx C.hb dL_most_337 (by decide +kernel) ?_
  refine q_cO (L := S170) (L' := S171) (As := [.int (nI 14), .int (nI 15)]) C hs hP hD hS (cs_rival S171 14 (nI 15) (-1) (by decide +kernel)) k_X5_rival kl_L_85 rfl hl rfl rfl (Nat.le_of_ble_eq_true rfl) ⟨⟨rfl, rfl⟩, Nat.le_of_ble_eq_true rfl, Nat.le_of_ble_eq_true rfl⟩ ⟨Nat.le_of_ble_eq_true rfl, Nat.le_of_ble_eq_true rfl⟩ dL_most_339 (fun g z H locs hs hP hD hS => ?_)
  refine lv_iconst (v := -1) C.hx C.hb dL_most_342 (by decide +kernel) ?_
  refine lv_icmp_eq (tgt := 348) C.hx C.hb dL_most_343 (by decide) (fun _ => ?_) (fun c9 => absurd c9 (by decide +kernel))
  refine lv_iinc (v := nI 15) (lv' := [(1, .int (nI 15)), (0, .ref (ad 70))]) C.hx C.hb dL_most_348 hl (k := 0) rfl (by decide +kernel) (by decide) rfl (fun ls hl => ?_)
  refine lv_goto (tgt := 329) C.hx C.hb dL_most_351 (by decide) ?_
  refine lv_iload_n C.hx C.hb dL_most_329 rfl (lv_at hl 0 rfl) ?_
  refine lv_bipush (v := nI 16) C.hx C.hb dL_most_330 (by decide +kernel) ?_
  refine lv_icmp_ge (tgt := 354) C.hx C.hb dL_most_332 (by decide) (fun c9 => absurd c9 (by decide +kernel)) (fun _ => ?_)
  refine lv_aload_n C.hx C.hb dL_most_335 rfl (lv_at hl 1 rfl) ?_
  refine lv_iload_n C.hx C.hb dL_most_336 rfl (lv_at hl 0 rfl) ?_
  refine lv_bipush (v := nI 15) C.hx C.hb dL_most_337 (by decide +kernel) ?_
  refine q_cO (L := S171) (L' := S172) (As := [.int (nI 15), .int (nI 15)]) C hs hP hD hS (cs_rival S172 15 (nI 15) (-1) (by decide +kernel)) k_X5_rival kl_L_85 rfl hl rfl rfl (Nat.le_of_ble_eq_true rfl) ⟨⟨rfl, rfl⟩, Nat.le_of_ble_eq_true rfl, Nat.le_of_ble_eq_true rfl⟩ ⟨Nat.le_of_ble_eq_true rfl, Nat.le_of_ble_eq_true rfl⟩ dL_most_339 (fun g z H locs hs hP hD hS => ?_)
  refine lv_iconst (v := -1) C.hx C.hb dL_most_342 (by decide +kernel) ?_
  refine lv_icmp_eq (tgt := 348) C.hx C.hb dL_most_343 (by decide) (fun _ => ?_) (fun c9 => absurd c9 (by decide +kernel))
  refine lv_iinc (v := nI 16) (lv' := [(1, .int (nI 16)), (0, .ref (ad 70))]) C.hx C.hb dL_most_348 hl (k := 0) rfl (by decide +kernel) (by decide) rfl (fun ls hl => ?_)
  refine lv_goto (tgt := 329) C.hx C.hb dL_most_351 (by decide) ?_
  refine lv_iload_n C.hx C.hb dL_most_329 rfl (lv_at hl 0 rfl) ?_
  refine lv_bipush (v := nI 16) C.hx C.hb dL_most_330 (by decide +kernel) ?_
  refine lv_icmp_ge (tgt := 354) C.hx C.hb dL_most_332 (by decide) (fun _ => ?_) (fun c9 => absurd c9 (by decide +kernel))
  refine lv_aload_n C.hx C.hb dL_most_354 rfl (lv_at hl 1 rfl) ?_
  refine q_cO (L := S172) (L' := S172) (As := []) C hs hP hD hS (cs_differ 0 (by decide +kernel)) k_X5_differ kl_L_98 rfl hl rfl rfl (Nat.le_of_ble_eq_true rfl) ⟨⟨rfl, rfl⟩, Nat.le_of_ble_eq_true rfl, Nat.le_of_ble_eq_true rfl⟩ ⟨Nat.le_of_ble_eq_true rfl, Nat.le_of_ble_eq_true rfl⟩ dL_most_355 (fun g z H locs hs hP hD hS => ?_)
  refine lv_if_ne (tgt := 434) C.hx C.hb dL_most_358 (by decide) (fun c9 => absurd c9 (by decide +kernel)) (fun _ => ?_)
  exact kk g z H locs ls hs hP hD hS hl

set_option maxRecDepth 100000 in
set_option maxHeartbeats 4000000 in
theorem tr_most_end {p : Program} {l : Launch} {e : Env} {s : State} {m : MethodId} {args : Array Value} {below : List Frame} {meth : Method} {c : Code} {D : va_G} {cA : ClassId} {A : Nat → Prop} {ad : Nat → Nat} (C : lcx p l s m c cL_most 2 D cA A) (hr : meth.sig.returnType = some .boolean) (hlk : meth.locks = false) : ∀ (g : Nat → Nat → Int32) (z : Nat → Nat) (H : Heap) (locs : List Loc) (ls : Array Slot), isL S172 g z → va_P D vwCl (rlW cA ad g z) H → va_D A (rlW cA ad g z) → va_S A s.heap H locs → lv_has ls 2 [(1, .int (nI 16)), (0, .ref (ad 70))] → W p l e rm_Lmost s m args below meth c H locs 151 1483 (q_GL D (nI 1) (fun w => w = []) A below args s 1000 6000) (F0 m 361 ls []) := by
  intro g z H locs ls hs hP hD hS hl
  refine lv_aload_n C.hx C.hb dL_most_361 rfl (lv_at hl 1 rfl) ?_
  refine lv_iconst (v := nI 0) C.hx C.hb dL_most_362 (by decide +kernel) ?_
  refine lv_bipush (v := nI 39) C.hx C.hb dL_most_363 (by decide +kernel) ?_
  refine q_cO (L := S172) (L' := S172) (As := [.int (nI 0), .int (nI 39)]) C hs hP hD hS (cs_degree 0 39 (nI 0) (by decide +kernel)) k_X5_degree kl_L_76 rfl hl rfl rfl (Nat.le_of_ble_eq_true rfl) ⟨⟨rfl, rfl⟩, Nat.le_of_ble_eq_true rfl, Nat.le_of_ble_eq_true rfl⟩ ⟨Nat.le_of_ble_eq_true rfl, Nat.le_of_ble_eq_true rfl⟩ dL_most_365 (fun g z H locs hs hP hD hS => ?_)
  refine lv_if_ne (tgt := 434) C.hx C.hb dL_most_368 (by decide) (fun c9 => absurd c9 (by decide +kernel)) (fun _ => ?_)
  refine lv_aload_n C.hx C.hb dL_most_371 rfl (lv_at hl 1 rfl) ?_
  refine lv_bipush (v := nI 15) C.hx C.hb dL_most_372 (by decide +kernel) ?_
  refine lv_iconst (v := nI 0) C.hx C.hb dL_most_374 (by decide +kernel) ?_
  refine lv_iconst (v := nI 0) C.hx C.hb dL_most_375 (by decide +kernel) ?_
  refine q_cO (L := S172) (L' := S173) (As := [.int (nI 15), .int (nI 0), .int (nI 0)]) C hs hP hD hS (cs_findC S173 15 (nI 0) (nI 0) 16 [] [999, 999, 999, 999, 999, 999, 999, 999, 999, 999, 999, 999, 999, 999, 999, 0] [([], [999, 999, 999, 999, 999, 999, 999, 999, 999, 999, 999, 999, 999, 100, 50, 0]), ([], [999, 999, 999, 999, 999, 999, 999, 999, 999, 999, 999, 200, 150, 100, 50, 0]), ([], [999, 999, 999, 999, 999, 999, 999, 999, 350, 300, 250, 200, 150, 100, 50, 0]), ([], [999, 999, 999, 999, 999, 500, 450, 400, 350, 300, 250, 200, 150, 100, 50, 0]), ([], [999, 999, 650, 600, 550, 500, 450, 400, 350, 300, 250, 200, 150, 100, 50, 0]), ([], [750, 700, 650, 600, 550, 500, 450, 400, 350, 300, 250, 200, 150, 100, 50, 0])] (updfl (j := 12) (by decide +kernel)) (updfl (j := 13) (by decide +kernel)) (by decide +kernel)) k_X5_find kl_L_25 rfl hl rfl rfl (Nat.le_of_ble_eq_true rfl) ⟨⟨rfl, rfl⟩, Nat.le_of_ble_eq_true rfl, Nat.le_of_ble_eq_true rfl⟩ ⟨Nat.le_of_ble_eq_true rfl, Nat.le_of_ble_eq_true rfl⟩ dL_most_376 (fun g z H locs hs hP hD hS => ?_)
  refine lv_bipush (v := nI 16) C.hx C.hb dL_most_379 (by decide +kernel) ?_
  refine lv_icmp_ne (tgt := 434) C.hx C.hb dL_most_381 (by decide) (fun c9 => absurd c9 (by decide +kernel)) (fun _ => ?_)
  refine lv_aload_n C.hx C.hb dL_most_384 rfl (lv_at hl 1 rfl) ?_
  refine lv_bipush (v := nI 15) C.hx C.hb dL_most_385 (by decide +kernel) ?_
  refine lv_iconst (v := nI 0) C.hx C.hb dL_most_387 (by decide +kernel) ?_
  refine lv_iconst (v := nI 0) C.hx C.hb dL_most_388 (by decide +kernel) ?_
  refine q_cP (L := S173) (L' := S173) (r := nI 1) (c2 := 151) (s2 := 1483) (As := [.int (nI 15), .int (nI 0), .int (nI 0)]) C hs hP hD hS (cs_Lyears C.htr 15 0 0 (by decide +kernel)) k_L_years kl_L_118 hl rfl rfl (Nat.le_of_ble_eq_true rfl) ⟨Nat.le_of_ble_eq_true rfl, Nat.le_of_ble_eq_true rfl⟩ ⟨Nat.le_of_ble_eq_true rfl, Nat.le_of_ble_eq_true rfl⟩ ⟨Nat.le_of_ble_eq_true rfl, Nat.le_of_ble_eq_true rfl⟩ dL_most_389 (fun g z H locs hs hP hD hS => ?_)
  refine lv_if_eq (tgt := 434) C.hx C.hb dL_most_392 (by decide) (fun c9 => absurd c9 (by decide +kernel)) (fun _ => ?_)
  refine lv_aload_n C.hx C.hb dL_most_395 rfl (lv_at hl 1 rfl) ?_
  refine lv_bipush (v := nI 14) C.hx C.hb dL_most_396 (by decide +kernel) ?_
  refine lv_iconst (v := nI 0) C.hx C.hb dL_most_398 (by decide +kernel) ?_
  refine lv_bipush (v := nI 50) C.hx C.hb dL_most_399 (by decide +kernel) ?_
  refine q_cP (L := S173) (L' := S173) (r := nI 1) (c2 := 151) (s2 := 1483) (As := [.int (nI 14), .int (nI 0), .int (nI 50)]) C hs hP hD hS (cs_Lyears C.htr 14 0 50 (by decide +kernel)) k_L_years kl_L_118 hl rfl rfl (Nat.le_of_ble_eq_true rfl) ⟨Nat.le_of_ble_eq_true rfl, Nat.le_of_ble_eq_true rfl⟩ ⟨Nat.le_of_ble_eq_true rfl, Nat.le_of_ble_eq_true rfl⟩ ⟨Nat.le_of_ble_eq_true rfl, Nat.le_of_ble_eq_true rfl⟩ dL_most_401 (fun g z H locs hs hP hD hS => ?_)
  refine lv_if_eq (tgt := 434) C.hx C.hb dL_most_404 (by decide) (fun c9 => absurd c9 (by decide +kernel)) (fun _ => ?_)
  refine lv_aload_n C.hx C.hb dL_most_407 rfl (lv_at hl 1 rfl) ?_
  refine lv_iconst (v := nI 0) C.hx C.hb dL_most_408 (by decide +kernel) ?_
  refine lv_iconst (v := nI 0) C.hx C.hb dL_most_409 (by decide +kernel) ?_
  refine lv_sipush (v := nI 750) C.hx C.hb dL_most_410 (by decide +kernel) ?_
  refine q_cP (L := S173) (L' := S173) (r := nI 1) (c2 := 151) (s2 := 1483) (As := [.int (nI 0), .int (nI 0), .int (nI 750)]) C hs hP hD hS (cs_Lyears C.htr 0 0 750 (by decide +kernel)) k_L_years kl_L_118 hl rfl rfl (Nat.le_of_ble_eq_true rfl) ⟨Nat.le_of_ble_eq_true rfl, Nat.le_of_ble_eq_true rfl⟩ ⟨Nat.le_of_ble_eq_true rfl, Nat.le_of_ble_eq_true rfl⟩ ⟨Nat.le_of_ble_eq_true rfl, Nat.le_of_ble_eq_true rfl⟩ dL_most_413 (fun g z H locs hs hP hD hS => ?_)
  refine lv_if_eq (tgt := 434) C.hx C.hb dL_most_416 (by decide) (fun c9 => absurd c9 (by decide +kernel)) (fun _ => ?_)
  refine lv_aload_n C.hx C.hb dL_most_419 rfl (lv_at hl 1 rfl) ?_
  refine lv_bipush (v := nI 16) C.hx C.hb dL_most_420 (by decide +kernel) ?_
  refine lv_bipush (v := nI 40) C.hx C.hb dL_most_422 (by decide +kernel) ?_
  refine q_cP (L := S173) (L' := S173) (r := nI 1) (c2 := 651) (s2 := 4483) (As := [.int (nI 16), .int (nI 40)]) C hs hP hD hS (cs_Lrefuses C.htr 16 40 (by decide +kernel)) k_L_refuses kl_L_109 hl rfl rfl (Nat.le_of_ble_eq_true rfl) ⟨Nat.le_of_ble_eq_true rfl, Nat.le_of_ble_eq_true rfl⟩ ⟨Nat.le_of_ble_eq_true rfl, Nat.le_of_ble_eq_true rfl⟩ ⟨Nat.le_of_ble_eq_true rfl, Nat.le_of_ble_eq_true rfl⟩ dL_most_424 (fun g z H locs hs hP hD hS => ?_)
  refine lv_if_eq (tgt := 434) C.hx C.hb dL_most_427 (by decide) (fun c9 => absurd c9 (by decide +kernel)) (fun _ => ?_)
  refine lv_iconst (v := nI 1) C.hx C.hb dL_most_430 (by decide +kernel) ?_
  refine lv_goto (tgt := 435) C.hx C.hb dL_most_431 (by decide) ?_
  exact q_lzret (w' := []) C.hx C.hb hr hlk (Or.inr rfl) rfl rfl (fun k q h => by simp at h) hS (Nat.le_of_ble_eq_true rfl) (Nat.le_of_ble_eq_true rfl) dL_most_435

set_option maxRecDepth 100000 in
theorem t_most {l : Launch} (htr : l.stackTraces = false) {D : va_G} {cA : ClassId} : q_CL l yL_most [Cond.code yL_most cL_most 2 (some .boolean)] rm_Lmost D cA [] [] (nI 1) (fun w => w = []) := by
  refine q_startP RL (by decide +kernel) rfl (Nat.le_of_ble_eq_true rfl) ?_
  intro p e s m below meth c A args H locs ls hx hb hr hml hown hT hlk hP hK hD hA hS hl hX hN hZ
  have C : lcx p l s m c cL_most 2 D cA A := ⟨hx, hb, hml, hown, hT, hK, hA, hX, hN, hZ, htr⟩
  refine q_new (N := 16) (ci := 5) hx hb hT hown kw_X5 tyX5 tyX5_ok kx_L_8 kn_X5 ki_OfficeholdersRoll hK hP hD hS hA rfl [.null, .null, .null, .null, .null, .null, .null, .null, .null, .null, .null, .null, .null, .null, .null, .int 0] q_fs_X5 (Nat.le_of_ble_eq_true rfl) (Nat.le_of_ble_eq_true rfl) dL_most_0 (fun q5 H hP hD hS => ?_)
  refine lv_dup hx hb dL_most_3 rfl ?_
  refine q_callN (rest := [.ref q5]) (As := []) (mc := 65) (ms := 957) (wr := []) hx hb hml hown hT hX.1 hK hP hD hS hA (c_X5_init l D cA q5) k_X5_init kl_L_108 hl rfl rfl (Nat.le_of_ble_eq_true rfl) ⟨⟨rfl, rfl⟩, Nat.le_of_ble_eq_true rfl, Nat.le_of_ble_eq_true rfl⟩ ⟨Nat.le_of_ble_eq_true rfl, Nat.le_of_ble_eq_true rfl⟩ dL_most_4 (fun ad H locs hu hP hD hS => ?_)
  have hP : va_P D vwCl (rlW cA ad g5_0 (fun _ => 0)) H := hP
  have hD : va_D A (rlW cA ad g5_0 (fun _ => 0)) := hD
  refine lv_astore_n (lv' := [(0, .ref q5)]) hx hb dL_most_7 rfl hl (by decide) rfl (fun ls hl => ?_)
  have hl : lv_has ls 2 [(0, .ref (ad 70))] := by rw [hu]; exact hl
  refine W.widen (k := 66) (n := 973) (Nat.le_of_ble_eq_true rfl) (Nat.le_of_ble_eq_true rfl) ?_
  exact tr_most_0 C (tr_most_1 C (tr_most_2 C (tr_most_3 C (tr_most_4 C (tr_most_5 C (tr_most_6 C (tr_most_7 C (tr_most_8 C (tr_most_9 C (tr_most_10 C (tr_most_11 C (tr_most_12 C (tr_most_13 C (tr_most_14 C (tr_most_15 C (tr_most_16 C (tr_most_17 C (tr_most_18 C (tr_most_19 C (tr_most_20 C (tr_most_21 C (tr_most_22 C (tr_most_23 C (tr_most_24 C (tr_most_25 C (tr_most_26 C (tr_most_27 C (tr_most_28 C (tr_most_29 C (tr_most_30 C (tr_most_31 C (tr_most_32 C (tr_most_33 C (tr_most_34 C (tr_most_end C hr hlk))))))))))))))))))))))))))))))))))) g5_0 (fun _ => 0) H locs ls isL_new hP hD hS hl

