abbrev rm_X0_bestOfSet : Room := { frames := 1, cells := 0, slots := 0, locals := 21 }
set_option maxRecDepth 100000 in
set_option maxHeartbeats 4000000 in
theorem c_X0_bestOfSet (l : Launch) (D : va_G) (cA : ClassId) (ad : Nat → Nat) (g : Nat → Nat → Int32) (z : Nat → Nat) (x : Nat) (hx9 : x < 64) : q_CI l yX0_bestOfSet [Cond.code yX0_bestOfSet cX0_bestOfSet 6 (some .int)] rm_X0_bestOfSet D cA [.ref (ad 73), .int (nI x)] (gpW cA ad g z) (bos (g 26) (g 27) x) (gpW cA ad g z) := by
  refine q_startI RX0 (by decide +kernel) rfl (Nat.le_of_ble_eq_true rfl) ?_
  intro p e s m below meth c A args H locs ls hx hb hr hml hown hT hlk hP hK hD hA hS hl
  have hl : lv_has ls 6 [(0, .ref (ad 73)), (1, .int (nI x))] := hl
  have zqL11 : ∀ (fu : Nat), ∀ (k : Nat), (x + 2 ≤ k + fu) → (k ≤ x + 1) → ∀ (H : Heap) (locs : List Loc) (ls : Array Slot), va_P D vwCl (gpW cA ad g z) H → va_D A (gpW cA ad g z) → va_S A s.heap H locs → lv_has ls 6 [(0, .ref (ad 73)), (1, .int (nI x)), (2, .int (nI (lowB x))), (3, .int (bosN (g 26) (g 27) x k)), (4, .int (nI k))] → W p l e rm_X0_bestOfSet s m args below meth c H locs 0 0 (q_GI D (bos (g 26) (g 27) x) (gpW cA ad g z) A below args s) (F0 m 11 ls []) := by
    intro fu
    induction fu with
    | zero =>
      intro k hfu hk H locs ls hP hD hS hl
      exfalso; omega
    | succ fu ih11 =>
      intro k hfu hk H locs ls hP hD hS hl
      have zqJ38 : (k ≤ x) → ∀ (H : Heap) (locs : List Loc) (ls : Array Slot), va_P D vwCl (gpW cA ad g z) H → va_D A (gpW cA ad g z) → va_S A s.heap H locs → lv_has ls 6 [(0, .ref (ad 73)), (1, .int (nI x)), (2, .int (nI (lowB x))), (3, .int (bosN (g 26) (g 27) x k)), (4, .int (nI k))] → W p l e rm_X0_bestOfSet s m args below meth c H locs 0 0 (q_GI D (bos (g 26) (g 27) x) (gpW cA ad g z) A below args s) (F0 m 38 ls [.int (q_b (prt x k))]) := by
        intro  hk9 H locs ls hP hD hS hl
        have zqJ85 : ∀ (H : Heap) (locs : List Loc) (ls : Array Slot), va_P D vwCl (gpW cA ad g z) H → va_D A (gpW cA ad g z) → va_S A s.heap H locs → lv_has ls 6 [(0, .ref (ad 73)), (1, .int (nI x)), (2, .int (nI (lowB x))), (3, .int (bosN (g 26) (g 27) x (k + 1))), (4, .int (nI k))] → W p l e rm_X0_bestOfSet s m args below meth c H locs 0 0 (q_GI D (bos (g 26) (g 27) x) (gpW cA ad g z) A below args s) (F0 m 85 ls []) := by
          intro   H locs ls hP hD hS hl
          refine lv_iinc (v := nI (k + 1)) (lv' := [(4, .int (nI (k + 1))), (0, .ref (ad 73)), (1, .int (nI x)), (2, .int (nI (lowB x))), (3, .int (bosN (g 26) (g 27) x (k + 1)))]) hx hb dX0_bestOfSet_85 hl (k := 4) rfl (q_inc1 _) (by decide) rfl (fun ls hl => ?_)
          refine lv_goto (tgt := 11) hx hb dX0_bestOfSet_88 (by decide) ?_
          exact ih11 (k + 1) (by omega) (by omega) _ _ _ hP hD hS (lv_sub hl [1, 2, 3, 4, 0] rfl)
        refine lv_istore (lv' := [(5, .int (q_b (prt x k))), (0, .ref (ad 73)), (1, .int (nI x)), (2, .int (nI (lowB x))), (3, .int (bosN (g 26) (g 27) x k)), (4, .int (nI k))]) hx hb dX0_bestOfSet_38 hl (by decide) rfl (fun ls hl => ?_)
        refine lv_iload hx hb dX0_bestOfSet_40 (lv_at hl 0 rfl) ?_
        refine lv_if_eq (tgt := 85) hx hb dX0_bestOfSet_42 (by decide) (fun c_42 => ?_) (fun c_42 => ?_)
        · have c_42 := q_b0e c_42
          have e9_0 : (bosN (g 26) (g 27) x k) = (bosN (g 26) (g 27) x (k + 1)) := by first | with_reducible rfl | (first | rw [bosN_f c_42] | rw [bosN_f2 c_56] | exact bosN_t c_42 c_56)
          have hl9 : lv_has ls 6 [(0, .ref (ad 73)), (1, .int (nI x)), (2, .int (nI (lowB x))), (3, .int (bosN (g 26) (g 27) x (k + 1))), (4, .int (nI k))] := lv_cast (l := [(0, .ref (ad 73)), (1, .int (nI x)), (2, .int (nI (lowB x))), (3, .int (bosN (g 26) (g 27) x k)), (4, .int (nI k))]) (lv_sub hl [1, 2, 3, 4, 5] rfl) (congrArg (fun v9 : Int32 => ([(0, .ref (ad 73)), (1, .int (nI x)), (2, .int (nI (lowB x))), (3, .int v9), (4, .int (nI k))] : List (Nat × Value))) e9_0)
          exact zqJ85   _ _ _ hP hD hS hl9
        · have c_42 := q_b0n c_42
          refine lv_aload_n hx hb dX0_bestOfSet_45 rfl (lv_at hl 1 rfl) ?_
          refine q_get hx hb hT hown hK hP kw_X0 0 rfl rfl 2 (by decide) kf_X0_23 rfl (v := .ref (ad 26)) rfl dX0_bestOfSet_46 ?_
          refine lv_iload hx hb dX0_bestOfSet_49 (lv_at hl 5 rfl) ?_
          refine q_callI (As := [.int (nI k)]) (r := g 26 k) (wc := rowW cA (ad 26) (ad 56) 64 (g 26)) (w1 := rowW cA (ad 26) (ad 56) 64 (g 26)) (ws1 := gpW cA ad g z) hx hb hml hown hT hK hP hD hS hA (c_X3_atN l D cA (ad 26) (ad 56) 64 (g 26) k (by omega) (by omega)) k_X3_at kl_X0_40 (q0 := 0) rfl rfl rfl [5, 6] rfl rfl rfl rfl hl rfl rfl (Nat.le_of_ble_eq_true rfl) ⟨⟨rfl, rfl⟩, Nat.le_of_ble_eq_true rfl, Nat.le_of_ble_eq_true rfl⟩ ⟨Nat.zero_le _, Nat.zero_le _⟩ dX0_bestOfSet_51 (fun H locs hP hD hS => ?_)
          refine lv_ldc (v := (-1000000)) hx hb hown (hT.use kk_X0_54 args) dX0_bestOfSet_54 ?_
          refine lv_icmp_eq (tgt := 85) hx hb dX0_bestOfSet_56 (by decide) (fun c_56 => ?_) (fun c_56 => ?_)
          · have e9_0 : (bosN (g 26) (g 27) x k) = (bosN (g 26) (g 27) x (k + 1)) := by first | with_reducible rfl | (first | rw [bosN_f c_42] | rw [bosN_f2 c_56] | exact bosN_t c_42 c_56)
            have hl9 : lv_has ls 6 [(0, .ref (ad 73)), (1, .int (nI x)), (2, .int (nI (lowB x))), (3, .int (bosN (g 26) (g 27) x (k + 1))), (4, .int (nI k))] := lv_cast (l := [(0, .ref (ad 73)), (1, .int (nI x)), (2, .int (nI (lowB x))), (3, .int (bosN (g 26) (g 27) x k)), (4, .int (nI k))]) (lv_sub hl [1, 2, 3, 4, 5] rfl) (congrArg (fun v9 : Int32 => ([(0, .ref (ad 73)), (1, .int (nI x)), (2, .int (nI (lowB x))), (3, .int v9), (4, .int (nI k))] : List (Nat × Value))) e9_0)
            exact zqJ85   _ _ _ hP hD hS hl9
          · refine lv_iload_n hx hb dX0_bestOfSet_59 rfl (lv_at hl 4 rfl) ?_
            refine lv_aload_n hx hb dX0_bestOfSet_60 rfl (lv_at hl 1 rfl) ?_
            refine q_get hx hb hT hown hK hP kw_X0 0 rfl rfl 2 (by decide) kf_X0_23 rfl (v := .ref (ad 26)) rfl dX0_bestOfSet_61 ?_
            refine lv_iload hx hb dX0_bestOfSet_64 (lv_at hl 5 rfl) ?_
            refine q_callI (As := [.int (nI k)]) (r := g 26 k) (wc := rowW cA (ad 26) (ad 56) 64 (g 26)) (w1 := rowW cA (ad 26) (ad 56) 64 (g 26)) (ws1 := gpW cA ad g z) hx hb hml hown hT hK hP hD hS hA (c_X3_atN l D cA (ad 26) (ad 56) 64 (g 26) k (by omega) (by omega)) k_X3_at kl_X0_40 (q0 := 0) rfl rfl rfl [5, 6] rfl rfl rfl rfl hl rfl rfl (Nat.le_of_ble_eq_true rfl) ⟨⟨rfl, rfl⟩, Nat.le_of_ble_eq_true rfl, Nat.le_of_ble_eq_true rfl⟩ ⟨Nat.zero_le _, Nat.zero_le _⟩ dX0_bestOfSet_66 (fun H locs hP hD hS => ?_)
            refine lv_aload_n hx hb dX0_bestOfSet_69 rfl (lv_at hl 1 rfl) ?_
            refine q_get hx hb hT hown hK hP kw_X0 0 rfl rfl 3 (by decide) kf_X0_26 rfl (v := .ref (ad 27)) rfl dX0_bestOfSet_70 ?_
            refine lv_iload_n hx hb dX0_bestOfSet_73 rfl (lv_at hl 2 rfl) ?_
            refine lv_iload hx hb dX0_bestOfSet_74 (lv_at hl 5 rfl) ?_
            refine lv_ixor hx hb dX0_bestOfSet_76 ?_
            refine q_top (y := nI (x ^^^ k)) (nx_xor' _ _) ?_
            refine q_callI (As := [.int (nI (x ^^^ k))]) (r := g 27 (x ^^^ k)) (wc := rowW cA (ad 27) (ad 57) 64 (g 27)) (w1 := rowW cA (ad 27) (ad 57) 64 (g 27)) (ws1 := gpW cA ad g z) hx hb hml hown hT hK hP hD hS hA (c_X3_atN l D cA (ad 27) (ad 57) 64 (g 27) (x ^^^ k) (Nat.xor_lt_two_pow (n := 6) (by omega) (by omega)) (by omega)) k_X3_at kl_X0_40 (q0 := 0) rfl rfl rfl [7, 8] rfl rfl rfl rfl hl rfl rfl (Nat.le_of_ble_eq_true rfl) ⟨⟨rfl, rfl⟩, Nat.le_of_ble_eq_true rfl, Nat.le_of_ble_eq_true rfl⟩ ⟨Nat.zero_le _, Nat.zero_le _⟩ dX0_bestOfSet_77 (fun H locs hP hD hS => ?_)
            refine lv_iadd hx hb dX0_bestOfSet_80 ?_
            refine q_max hx hb hml hown hT hl kl_X0_55 (Nat.le_of_ble_eq_true rfl) (Nat.le_of_ble_eq_true rfl) ⟨Nat.zero_le _, Nat.zero_le _⟩ dX0_bestOfSet_81 ?_
            refine lv_istore_n (lv' := [(3, .int (if (bosN (g 26) (g 27) x k) < ((g 26 k) + (g 27 (x ^^^ k))) then ((g 26 k) + (g 27 (x ^^^ k))) else (bosN (g 26) (g 27) x k))), (5, .int (q_b (prt x k))), (0, .ref (ad 73)), (1, .int (nI x)), (2, .int (nI (lowB x))), (4, .int (nI k))]) hx hb dX0_bestOfSet_84 rfl hl (by decide) rfl (fun ls hl => ?_)
            have e9_0 : (if (bosN (g 26) (g 27) x k) < ((g 26 k) + (g 27 (x ^^^ k))) then ((g 26 k) + (g 27 (x ^^^ k))) else (bosN (g 26) (g 27) x k)) = (bosN (g 26) (g 27) x (k + 1)) := by first | with_reducible rfl | (first | rw [bosN_f c_42] | rw [bosN_f2 c_56] | exact bosN_t c_42 c_56)
            have hl9 : lv_has ls 6 [(0, .ref (ad 73)), (1, .int (nI x)), (2, .int (nI (lowB x))), (3, .int (bosN (g 26) (g 27) x (k + 1))), (4, .int (nI k))] := lv_cast (l := [(0, .ref (ad 73)), (1, .int (nI x)), (2, .int (nI (lowB x))), (3, .int (if (bosN (g 26) (g 27) x k) < ((g 26 k) + (g 27 (x ^^^ k))) then ((g 26 k) + (g 27 (x ^^^ k))) else (bosN (g 26) (g 27) x k))), (4, .int (nI k))]) (lv_sub hl [2, 3, 4, 0, 5] rfl) (congrArg (fun v9 : Int32 => ([(0, .ref (ad 73)), (1, .int (nI x)), (2, .int (nI (lowB x))), (3, .int v9), (4, .int (nI k))] : List (Nat × Value))) e9_0)
            exact zqJ85   _ _ _ hP hD hS hl9
      refine lv_iload hx hb dX0_bestOfSet_11 (lv_at hl 4 rfl) ?_
      refine lv_iload_n hx hb dX0_bestOfSet_13 rfl (lv_at hl 1 rfl) ?_
      refine lv_icmp_gt (tgt := 91) hx hb dX0_bestOfSet_14 (by decide) (fun c_14 => ?_) (fun c_14 => ?_)
      · have c_14 := nI_lt1 (a := x) (b := k) (by omega) (by omega) c_14
        refine lv_iload_n hx hb dX0_bestOfSet_91 rfl (lv_at hl 3 rfl) ?_
        exact q_iret hx hb hr hlk (by rw [show k = x + 1 by omega]; rfl) hP hS dX0_bestOfSet_92
      · have c_14 := nI_lt0 (a := x) (b := k) (by omega) (by omega) c_14
        refine lv_iload hx hb dX0_bestOfSet_17 (lv_at hl 4 rfl) ?_
        refine lv_iload_n hx hb dX0_bestOfSet_19 rfl (lv_at hl 1 rfl) ?_
        refine lv_iand hx hb dX0_bestOfSet_20 ?_
        refine q_top (y := nI (k &&& x)) (nx_and' _ _) ?_
        refine lv_iload hx hb dX0_bestOfSet_21 (lv_at hl 4 rfl) ?_
        refine lv_icmp_ne (tgt := 37) hx hb dX0_bestOfSet_23 (by decide) (fun c_23 => ?_) (fun c_23 => ?_)
        · have c_23 := mt (congrArg nI) c_23
          refine lv_iconst (v := nI 0) hx hb dX0_bestOfSet_37 (by decide +kernel) ?_
          refine q_top (y := q_b (prt x k)) (by first | exact q_bt (decide_eq_true ⟨c_23, c_30⟩) | exact q_bf (decide_eq_false (fun h => h.2 c_30)) | exact q_bf (decide_eq_false (fun h => c_23 h.1))) ?_
          exact zqJ38  (by omega) _ _ _ hP hD hS (lv_sub hl [0, 1, 2, 3, 4] rfl)
        · have c_23 := nI_eq1 (Nat.lt_of_le_of_lt Nat.and_le_left (by omega)) (by omega) c_23
          refine lv_iload hx hb dX0_bestOfSet_26 (lv_at hl 4 rfl) ?_
          refine lv_iload_n hx hb dX0_bestOfSet_28 rfl (lv_at hl 2 rfl) ?_
          refine lv_iand hx hb dX0_bestOfSet_29 ?_
          refine q_top (y := nI (k &&& lowB x)) (nx_and' _ _) ?_
          refine lv_if_eq (tgt := 37) hx hb dX0_bestOfSet_30 (by decide) (fun c_30 => ?_) (fun c_30 => ?_)
          · have c_30 := nI_eq1 (b := 0) (Nat.lt_of_le_of_lt Nat.and_le_left (by omega)) (by omega) c_30
            refine lv_iconst (v := nI 0) hx hb dX0_bestOfSet_37 (by decide +kernel) ?_
            refine q_top (y := q_b (prt x k)) (by first | exact q_bt (decide_eq_true ⟨c_23, c_30⟩) | exact q_bf (decide_eq_false (fun h => h.2 c_30)) | exact q_bf (decide_eq_false (fun h => c_23 h.1))) ?_
            exact zqJ38  (by omega) _ _ _ hP hD hS (lv_sub hl [0, 1, 2, 3, 4] rfl)
          · have c_30 : ¬ k &&& lowB x = 0 := fun h => c_30 (by rw [h]; rfl)
            refine lv_iconst (v := nI 1) hx hb dX0_bestOfSet_33 (by decide +kernel) ?_
            refine lv_goto (tgt := 38) hx hb dX0_bestOfSet_34 (by decide) ?_
            refine q_top (y := q_b (prt x k)) (by first | exact q_bt (decide_eq_true ⟨c_23, c_30⟩) | exact q_bf (decide_eq_false (fun h => h.2 c_30)) | exact q_bf (decide_eq_false (fun h => c_23 h.1))) ?_
            exact zqJ38  (by omega) _ _ _ hP hD hS (lv_sub hl [0, 1, 2, 3, 4] rfl)
  refine lv_iload_n hx hb dX0_bestOfSet_0 rfl (lv_at hl 1 rfl) ?_
  refine lv_iload_n hx hb dX0_bestOfSet_1 rfl (lv_at hl 1 rfl) ?_
  refine lv_ineg hx hb dX0_bestOfSet_2 ?_
  refine lv_iand hx hb dX0_bestOfSet_3 ?_
  refine q_top (y := nI (lowB x)) (lowB_neg x hx9) ?_
  refine lv_istore_n (lv' := [(2, .int (nI (lowB x))), (0, .ref (ad 73)), (1, .int (nI x))]) hx hb dX0_bestOfSet_4 rfl hl (by decide) rfl (fun ls hl => ?_)
  refine lv_ldc (v := (-1000000)) hx hb hown (hT.use kk_X0_54 args) dX0_bestOfSet_5 ?_
  refine lv_istore_n (lv' := [(3, .int (-1000000)), (2, .int (nI (lowB x))), (0, .ref (ad 73)), (1, .int (nI x))]) hx hb dX0_bestOfSet_7 rfl hl (by decide) rfl (fun ls hl => ?_)
  refine lv_iload_n hx hb dX0_bestOfSet_8 rfl (lv_at hl 1 rfl) ?_
  refine lv_istore (lv' := [(4, .int (nI (lowB x))), (3, .int (-1000000)), (2, .int (nI (lowB x))), (0, .ref (ad 73)), (1, .int (nI x))]) hx hb dX0_bestOfSet_9 hl (by decide) rfl (fun ls hl => ?_)
  have e9_0 : (-1000000) = (bosN (g 26) (g 27) x (lowB x)) := by first | with_reducible rfl | (rw [bosN_0 hx9 _ (Nat.le_refl _)])
  have hl9 : lv_has ls 6 [(0, .ref (ad 73)), (1, .int (nI x)), (2, .int (nI (lowB x))), (3, .int (bosN (g 26) (g 27) x (lowB x))), (4, .int (nI (lowB x)))] := lv_cast (l := [(0, .ref (ad 73)), (1, .int (nI x)), (2, .int (nI (lowB x))), (3, .int (-1000000)), (4, .int (nI (lowB x)))]) (lv_sub hl [3, 4, 2, 1, 0] rfl) (congrArg (fun v9 : Int32 => ([(0, .ref (ad 73)), (1, .int (nI x)), (2, .int (nI (lowB x))), (3, .int v9), (4, .int (nI (lowB x)))] : List (Nat × Value))) e9_0)
  exact zqL11 (x + 2) (lowB x) (by omega) (by have := (lowB_lt x hx9).2; omega) _ _ _ hP hD hS hl9
abbrev rm_X0_bestByParts : Room := { frames := 3, cells := 0, slots := 0, locals := 68 }
set_option maxRecDepth 100000 in
set_option maxHeartbeats 4000000 in
theorem c_X0_bestByParts (l : Launch) (D : va_G) (cA : ClassId) (ad : Nat → Nat) (g : Nat → Nat → Int32) (z : Nat → Nat)  (hz : (z 3) ≤ 6) : q_CI l yX0_bestByParts [Cond.code yX0_bestByParts cX0_bestByParts 3 (some .int)] rm_X0_bestByParts D cA [.ref (ad 73)] (gpW cA ad g z) (bpB (g 25) (g 26) (g 27) (z 3) (2 ^ (z 3) - 1) (2 ^ (z 3) - 1)) (gpW cA ad (gs (gs g 26 (bpG (g 25) (g 26) (z 3) (2 ^ (z 3) - 1))) 27 (bpB (g 25) (g 26) (g 27) (z 3) (2 ^ (z 3) - 1))) z) := by
  refine q_startI RX0 (by decide +kernel) rfl (Nat.le_of_ble_eq_true rfl) ?_
  intro p e s m below meth c A args H locs ls hx hb hr hml hown hT hlk hP hK hD hA hS hl
  have hl : lv_has ls 3 [(0, .ref (ad 73))] := hl
  have hpw := pw2_le (z 3) hz
  obtain ⟨N2, hN2⟩ : ∃ y, y = 2 ^ (z 3) - 1 := ⟨_, rfl⟩
  have hN3 : N2 < 64 := by omega
  have zqL20 : ∀ (fu : Nat), ∀ (k : Nat), (N2 + 1 ≤ k + fu) → (k ≤ N2) → ∀ (H : Heap) (locs : List Loc) (ls : Array Slot), va_P D vwCl (gpW cA ad (gs (gs g 26 (bpG (g 25) (g 26) (z 3) k)) 27 (bpB (g 25) (g 26) (g 27) (z 3) k)) z) H → va_D A (gpW cA ad (gs (gs g 26 (bpG (g 25) (g 26) (z 3) k)) 27 (bpB (g 25) (g 26) (g 27) (z 3) k)) z) → va_S A s.heap H locs → lv_has ls 3 [(0, .ref (ad 73)), (1, .int (nI N2)), (2, .int (nI (k + 1)))] → W p l e rm_X0_bestByParts s m args below meth c H locs 0 0 (q_GI D (bpB (g 25) (g 26) (g 27) (z 3) (2 ^ (z 3) - 1) (2 ^ (z 3) - 1)) (gpW cA ad (gs (gs g 26 (bpG (g 25) (g 26) (z 3) (2 ^ (z 3) - 1))) 27 (bpB (g 25) (g 26) (g 27) (z 3) (2 ^ (z 3) - 1))) z) A below args s) (F0 m 20 ls []) := by
    intro fu
    induction fu with
    | zero =>
      intro k hfu hk H locs ls hP hD hS hl
      exfalso; omega
    | succ fu ih20 =>
      intro k hfu hk H locs ls hP hD hS hl
      refine lv_iload_n hx hb dX0_bestByParts_20 rfl (lv_at hl 2 rfl) ?_
      refine lv_iload_n hx hb dX0_bestByParts_21 rfl (lv_at hl 1 rfl) ?_
      refine lv_icmp_gt (tgt := 57) hx hb dX0_bestByParts_22 (by decide) (fun c_22 => ?_) (fun c_22 => ?_)
      · have c_22 := nI_lt1 (a := N2) (b := k + 1) (by omega) (by omega) c_22
        refine lv_aload_n hx hb dX0_bestByParts_57 rfl (lv_at hl 0 rfl) ?_
        refine q_get hx hb hT hown hK hP kw_X0 0 rfl rfl 3 (by decide) kf_X0_26 rfl (v := .ref (ad 27)) rfl dX0_bestByParts_58 ?_
        refine lv_iload_n hx hb dX0_bestByParts_61 rfl (lv_at hl 1 rfl) ?_
        refine q_callI (As := [.int (nI N2)]) (r := (bpB (g 25) (g 26) (g 27) (z 3) k) N2) (wc := rowW cA (ad 27) (ad 57) 64 (bpB (g 25) (g 26) (g 27) (z 3) k)) (w1 := rowW cA (ad 27) (ad 57) 64 (bpB (g 25) (g 26) (g 27) (z 3) k)) (ws1 := gpW cA ad (gs (gs g 26 (bpG (g 25) (g 26) (z 3) k)) 27 (bpB (g 25) (g 26) (g 27) (z 3) k)) z) hx hb hml hown hT hK hP hD hS hA (c_X3_atN l D cA (ad 27) (ad 57) 64 (bpB (g 25) (g 26) (g 27) (z 3) k) N2 (by omega) (by omega)) k_X3_at kl_X0_40 (q0 := 0) rfl rfl rfl [7, 8] rfl rfl rfl rfl hl rfl rfl (Nat.le_of_ble_eq_true rfl) ⟨⟨rfl, rfl⟩, Nat.le_of_ble_eq_true rfl, Nat.le_of_ble_eq_true rfl⟩ ⟨Nat.zero_le _, Nat.zero_le _⟩ dX0_bestByParts_62 (fun H locs hP hD hS => ?_)
        exact q_iret hx hb hr hlk (by rw [show k = N2 by omega, hN2]) (va_cast' hP (by rw [show k = N2 by omega, hN2])) hS dX0_bestByParts_65
      · have c_22 := nI_lt0 (a := N2) (b := k + 1) (by omega) (by omega) c_22
        refine lv_aload_n hx hb dX0_bestByParts_25 rfl (lv_at hl 0 rfl) ?_
        refine q_get hx hb hT hown hK hP kw_X0 0 rfl rfl 2 (by decide) kf_X0_23 rfl (v := .ref (ad 26)) rfl dX0_bestByParts_26 ?_
        refine lv_iload_n hx hb dX0_bestByParts_29 rfl (lv_at hl 2 rfl) ?_
        refine lv_aload_n hx hb dX0_bestByParts_30 rfl (lv_at hl 0 rfl) ?_
        refine lv_iload_n hx hb dX0_bestByParts_31 rfl (lv_at hl 2 rfl) ?_
        refine q_callIW (As := [.int (nI (k + 1))]) (r := wOf (setT (nI (k + 1))) (g 25) (z 3)) (w1 := gpW cA ad (gs (gs g 26 (bpG (g 25) (g 26) (z 3) k)) 27 (bpB (g 25) (g 26) (g 27) (z 3) k)) z) hx hb hml hown hT hK hP hD hS hA (c_X0_worthOfGroup l D cA ad (gs (gs g 26 (bpG (g 25) (g 26) (z 3) k)) 27 (bpB (g 25) (g 26) (g 27) (z 3) k)) z (k + 1) (show (k + 1) < 64 by omega) (show (z 3) ≤ 6 by omega)) k_X0_worthOfGroup kl_X0_44 (q0 := 0) rfl rfl rfl ((gpW_adr _ _ _ _).trans (gpW_adr _ _ _ _).symm) hl rfl rfl (Nat.le_of_ble_eq_true rfl) ⟨⟨rfl, rfl⟩, Nat.le_of_ble_eq_true rfl, Nat.le_of_ble_eq_true rfl⟩ ⟨Nat.zero_le _, Nat.zero_le _⟩ dX0_bestByParts_32 (fun H locs hP hD hS => ?_)
        refine q_callV (As := [.int (nI (k + 1)), .int (wOf (setT (nI (k + 1))) (g 25) (z 3))]) (wc := rowW cA (ad 26) (ad 56) 64 (bpG (g 25) (g 26) (z 3) k)) (w1 := rowW cA (ad 26) (ad 56) 64 (upd (bpG (g 25) (g 26) (z 3) k) (k + 1) (wOf (setT (nI (k + 1))) (g 25) (z 3)))) (ws1 := gpW cA ad (gs (gs g 26 (upd (bpG (g 25) (g 26) (z 3) k) (k + 1) (wOf (setT (nI (k + 1))) (g 25) (z 3)))) 27 (bpB (g 25) (g 26) (g 27) (z 3) k)) z) hx hb hml hown hT hK hP hD hS hA (c_X3_putN l D cA (ad 26) (ad 56) 64 (bpG (g 25) (g 26) (z 3) k) (k + 1) (wOf (setT (nI (k + 1))) (g 25) (z 3)) (by omega) (by omega)) k_X3_put kl_X0_36 (q0 := 0) rfl rfl rfl [5, 6] rfl rfl rfl rfl hl rfl rfl (Nat.le_of_ble_eq_true rfl) ⟨⟨rfl, rfl⟩, Nat.le_of_ble_eq_true rfl, Nat.le_of_ble_eq_true rfl⟩ ⟨Nat.zero_le _, Nat.zero_le _⟩ dX0_bestByParts_35 (fun H locs hP hD hS => ?_)
        obtain ⟨nF35_26, enF35_26⟩ : ∃ y : Nat → Int32, y = upd (bpG (g 25) (g 26) (z 3) k) (k + 1) (wOf (setT (nI (k + 1))) (g 25) (z 3)) := ⟨_, rfl⟩
        have hP : va_P D vwCl (gpW cA ad (gs (gs g 26 nF35_26) 27 (bpB (g 25) (g 26) (g 27) (z 3) k)) z) H := by rw [enF35_26]; exact hP
        have hD : va_D A (gpW cA ad (gs (gs g 26 nF35_26) 27 (bpB (g 25) (g 26) (g 27) (z 3) k)) z) := by rw [enF35_26]; exact hD
        refine lv_aload_n hx hb dX0_bestByParts_38 rfl (lv_at hl 0 rfl) ?_
        refine q_get hx hb hT hown hK hP kw_X0 0 rfl rfl 3 (by decide) kf_X0_26 rfl (v := .ref (ad 27)) rfl dX0_bestByParts_39 ?_
        refine lv_iload_n hx hb dX0_bestByParts_42 rfl (lv_at hl 2 rfl) ?_
        refine lv_aload_n hx hb dX0_bestByParts_43 rfl (lv_at hl 0 rfl) ?_
        refine lv_iload_n hx hb dX0_bestByParts_44 rfl (lv_at hl 2 rfl) ?_
        refine q_callIW (As := [.int (nI (k + 1))]) (r := bos nF35_26 (bpB (g 25) (g 26) (g 27) (z 3) k) (k + 1)) (w1 := gpW cA ad (gs (gs g 26 nF35_26) 27 (bpB (g 25) (g 26) (g 27) (z 3) k)) z) hx hb hml hown hT hK hP hD hS hA (c_X0_bestOfSet l D cA ad (gs (gs g 26 nF35_26) 27 (bpB (g 25) (g 26) (g 27) (z 3) k)) z (k + 1) (show (k + 1) < 64 by omega)) k_X0_bestOfSet kl_X0_47 (q0 := 0) rfl rfl rfl ((gpW_adr _ _ _ _).trans (gpW_adr _ _ _ _).symm) hl rfl rfl (Nat.le_of_ble_eq_true rfl) ⟨⟨rfl, rfl⟩, Nat.le_of_ble_eq_true rfl, Nat.le_of_ble_eq_true rfl⟩ ⟨Nat.zero_le _, Nat.zero_le _⟩ dX0_bestByParts_45 (fun H locs hP hD hS => ?_)
        refine q_callV (As := [.int (nI (k + 1)), .int (bos nF35_26 (bpB (g 25) (g 26) (g 27) (z 3) k) (k + 1))]) (wc := rowW cA (ad 27) (ad 57) 64 (bpB (g 25) (g 26) (g 27) (z 3) k)) (w1 := rowW cA (ad 27) (ad 57) 64 (upd (bpB (g 25) (g 26) (g 27) (z 3) k) (k + 1) (bos nF35_26 (bpB (g 25) (g 26) (g 27) (z 3) k) (k + 1)))) (ws1 := gpW cA ad (gs (gs g 26 nF35_26) 27 (upd (bpB (g 25) (g 26) (g 27) (z 3) k) (k + 1) (bos nF35_26 (bpB (g 25) (g 26) (g 27) (z 3) k) (k + 1)))) z) hx hb hml hown hT hK hP hD hS hA (c_X3_putN l D cA (ad 27) (ad 57) 64 (bpB (g 25) (g 26) (g 27) (z 3) k) (k + 1) (bos nF35_26 (bpB (g 25) (g 26) (g 27) (z 3) k) (k + 1)) (by omega) (by omega)) k_X3_put kl_X0_36 (q0 := 0) rfl rfl rfl [7, 8] rfl rfl rfl rfl hl rfl rfl (Nat.le_of_ble_eq_true rfl) ⟨⟨rfl, rfl⟩, Nat.le_of_ble_eq_true rfl, Nat.le_of_ble_eq_true rfl⟩ ⟨Nat.zero_le _, Nat.zero_le _⟩ dX0_bestByParts_48 (fun H locs hP hD hS => ?_)
        obtain ⟨nF48_27, enF48_27⟩ : ∃ y : Nat → Int32, y = upd (bpB (g 25) (g 26) (g 27) (z 3) k) (k + 1) (bos nF35_26 (bpB (g 25) (g 26) (g 27) (z 3) k) (k + 1)) := ⟨_, rfl⟩
        have hP : va_P D vwCl (gpW cA ad (gs (gs g 26 nF35_26) 27 nF48_27) z) H := by rw [enF48_27]; exact hP
        have hD : va_D A (gpW cA ad (gs (gs g 26 nF35_26) 27 nF48_27) z) := by rw [enF48_27]; exact hD
        refine lv_iinc (v := nI (k + 2)) (lv' := [(2, .int (nI (k + 2))), (0, .ref (ad 73)), (1, .int (nI N2))]) hx hb dX0_bestByParts_51 hl (k := 2) rfl (q_inc1 _) (by decide) rfl (fun ls hl => ?_)
        refine lv_goto (tgt := 20) hx hb dX0_bestByParts_54 (by decide) ?_
        rw [enF48_27] at hP hD
        rw [enF35_26] at hP hD
        have e9_0 : (nI (k + 2)) = (nI ((k + 1) + 1)) := by first | with_reducible rfl | (rfl)
        have hl9 : lv_has ls 3 [(0, .ref (ad 73)), (1, .int (nI N2)), (2, .int (nI ((k + 1) + 1)))] := lv_cast (l := [(0, .ref (ad 73)), (1, .int (nI N2)), (2, .int (nI (k + 2)))]) (lv_sub hl [1, 2, 0] rfl) (congrArg (fun v9 : Int32 => ([(0, .ref (ad 73)), (1, .int (nI N2)), (2, .int v9)] : List (Nat × Value))) e9_0)
        have ew9 : (gpW cA ad (gs (gs g 26 (upd (bpG (g 25) (g 26) (z 3) k) (k + 1) (wOf (setT (nI (k + 1))) (g 25) (z 3)))) 27 (upd (bpB (g 25) (g 26) (g 27) (z 3) k) (k + 1) (bos (upd (bpG (g 25) (g 26) (z 3) k) (k + 1) (wOf (setT (nI (k + 1))) (g 25) (z 3))) (bpB (g 25) (g 26) (g 27) (z 3) k) (k + 1)))) z) = (gpW cA ad (gs (gs g 26 (bpG (g 25) (g 26) (z 3) (k + 1))) 27 (bpB (g 25) (g 26) (g 27) (z 3) (k + 1))) z) := by first | with_reducible rfl | (rfl)
        have hP : va_P D vwCl (gpW cA ad (gs (gs g 26 (bpG (g 25) (g 26) (z 3) (k + 1))) 27 (bpB (g 25) (g 26) (g 27) (z 3) (k + 1))) z) H := va_cast' hP ew9
        have hD : va_D A (gpW cA ad (gs (gs g 26 (bpG (g 25) (g 26) (z 3) (k + 1))) 27 (bpB (g 25) (g 26) (g 27) (z 3) (k + 1))) z) := va_castD hD ew9
        exact ih20 (k + 1) (by omega) (by omega) _ _ _ hP hD hS hl9
  refine lv_iconst (v := nI 1) hx hb dX0_bestByParts_0 (by decide +kernel) ?_
  refine lv_aload_n hx hb dX0_bestByParts_1 rfl (lv_at hl 0 rfl) ?_
  refine q_get hx hb hT hown hK hP kw_X0 0 rfl rfl 5 (by decide) kf_X0_32 rfl (v := .int (nI (z 3))) rfl dX0_bestByParts_2 ?_
  refine lv_ishl hx hb dX0_bestByParts_5 ?_
  refine lv_iconst (v := nI 1) hx hb dX0_bestByParts_6 (by decide +kernel) ?_
  refine lv_isub hx hb dX0_bestByParts_7 ?_
  refine q_top (y := nI N2) ((pw2_m1 (z 3) hz).trans (by rw [hN2])) ?_
  refine lv_istore_n (lv' := [(1, .int (nI N2)), (0, .ref (ad 73))]) hx hb dX0_bestByParts_8 rfl hl (by decide) rfl (fun ls hl => ?_)
  refine lv_aload_n hx hb dX0_bestByParts_9 rfl (lv_at hl 1 rfl) ?_
  refine q_get hx hb hT hown hK hP kw_X0 0 rfl rfl 3 (by decide) kf_X0_26 rfl (v := .ref (ad 27)) rfl dX0_bestByParts_10 ?_
  refine lv_iconst (v := nI 0) hx hb dX0_bestByParts_13 (by decide +kernel) ?_
  refine lv_iconst (v := nI 0) hx hb dX0_bestByParts_14 (by decide +kernel) ?_
  refine q_callV (As := [.int (nI 0), .int (nI 0)]) (wc := rowW cA (ad 27) (ad 57) 64 (g 27)) (w1 := rowW cA (ad 27) (ad 57) 64 (upd (g 27) 0 (nI 0))) (ws1 := gpW cA ad (gs g 27 (upd (g 27) 0 (nI 0))) z) hx hb hml hown hT hK hP hD hS hA (c_X3_putN l D cA (ad 27) (ad 57) 64 (g 27) 0 (nI 0) (by omega) (by omega)) k_X3_put kl_X0_36 (q0 := 0) rfl rfl rfl [7, 8] rfl rfl rfl rfl hl rfl rfl (Nat.le_of_ble_eq_true rfl) ⟨⟨rfl, rfl⟩, Nat.le_of_ble_eq_true rfl, Nat.le_of_ble_eq_true rfl⟩ ⟨Nat.zero_le _, Nat.zero_le _⟩ dX0_bestByParts_15 (fun H locs hP hD hS => ?_)
  obtain ⟨nF15_27, enF15_27⟩ : ∃ y : Nat → Int32, y = upd (g 27) 0 (nI 0) := ⟨_, rfl⟩
  have hP : va_P D vwCl (gpW cA ad (gs g 27 nF15_27) z) H := by rw [enF15_27]; exact hP
  have hD : va_D A (gpW cA ad (gs g 27 nF15_27) z) := by rw [enF15_27]; exact hD
  refine lv_iconst (v := nI 1) hx hb dX0_bestByParts_18 (by decide +kernel) ?_
  refine lv_istore_n (lv' := [(2, .int (nI 1)), (1, .int (nI N2)), (0, .ref (ad 73))]) hx hb dX0_bestByParts_19 rfl hl (by decide) rfl (fun ls hl => ?_)
  rw [enF15_27] at hP hD
  have e9_0 : (nI 1) = (nI (0 + 1)) := by first | with_reducible rfl | (rfl)
  have hl9 : lv_has ls 3 [(0, .ref (ad 73)), (1, .int (nI N2)), (2, .int (nI (0 + 1)))] := lv_cast (l := [(0, .ref (ad 73)), (1, .int (nI N2)), (2, .int (nI 1))]) (lv_sub hl [2, 1, 0] rfl) (congrArg (fun v9 : Int32 => ([(0, .ref (ad 73)), (1, .int (nI N2)), (2, .int v9)] : List (Nat × Value))) e9_0)
  have ew9 : (gpW cA ad (gs g 27 (upd (g 27) 0 (nI 0))) z) = (gpW cA ad (gs (gs g 26 (bpG (g 25) (g 26) (z 3) 0)) 27 (bpB (g 25) (g 26) (g 27) (z 3) 0)) z) := by first | with_reducible rfl | (rfl)
  have hP : va_P D vwCl (gpW cA ad (gs (gs g 26 (bpG (g 25) (g 26) (z 3) 0)) 27 (bpB (g 25) (g 26) (g 27) (z 3) 0)) z) H := va_cast' hP ew9
  have hD : va_D A (gpW cA ad (gs (gs g 26 (bpG (g 25) (g 26) (z 3) 0)) 27 (bpB (g 25) (g 26) (g 27) (z 3) 0)) z) := va_castD hD ew9
  exact zqL20 (N2 + 1) 0 (by omega) (by omega) _ _ _ hP hD hS hl9
abbrev rm_X0_greatestGroupBefore : Room := { frames := 1, cells := 0, slots := 0, locals := 21 }
set_option maxRecDepth 100000 in
set_option maxHeartbeats 4000000 in
theorem c_X0_greatestGroupBefore (l : Launch) (D : va_G) (cA : ClassId) (ad : Nat → Nat) (g : Nat → Nat → Int32) (z : Nat → Nat) (k : Nat) (hk9 : k ≤ 6) : q_CI l yX0_greatestGroupBefore [Cond.code yX0_greatestGroupBefore cX0_greatestGroupBefore 4 (some .int)] rm_X0_greatestGroupBefore D cA [.ref (ad 73), .int (nI k)] (gpW cA ad g z) (ggb (g 28) k) (gpW cA ad g z) := by
  refine q_startI RX0 (by decide +kernel) rfl (Nat.le_of_ble_eq_true rfl) ?_
  intro p e s m below meth c A args H locs ls hx hb hr hml hown hT hlk hP hK hD hA hS hl
  have hl : lv_has ls 4 [(0, .ref (ad 73)), (1, .int (nI k))] := hl
  have zqL4 : ∀ (fu : Nat), ∀ (j : Nat), (k + 1 ≤ j + fu) → (j ≤ k) → ∀ (H : Heap) (locs : List Loc) (ls : Array Slot), va_P D vwCl (gpW cA ad g z) H → va_D A (gpW cA ad g z) → va_S A s.heap H locs → lv_has ls 4 [(0, .ref (ad 73)), (1, .int (nI k)), (2, .int (ggb (g 28) j)), (3, .int (nI j))] → W p l e rm_X0_greatestGroupBefore s m args below meth c H locs 0 0 (q_GI D (ggb (g 28) k) (gpW cA ad g z) A below args s) (F0 m 4 ls []) := by
    intro fu
    induction fu with
    | zero =>
      intro j hfu hj H locs ls hP hD hS hl
      exfalso; omega
    | succ fu ih4 =>
      intro j hfu hj H locs ls hP hD hS hl
      refine lv_iload_n hx hb dX0_greatestGroupBefore_4 rfl (lv_at hl 3 rfl) ?_
      refine lv_iload_n hx hb dX0_greatestGroupBefore_5 rfl (lv_at hl 1 rfl) ?_
      refine lv_icmp_ge (tgt := 28) hx hb dX0_greatestGroupBefore_6 (by decide) (fun c_6 => ?_) (fun c_6 => ?_)
      · have c_6 := nI_le1 (a := k) (b := j) (by omega) (by omega) c_6
        refine lv_iload_n hx hb dX0_greatestGroupBefore_28 rfl (lv_at hl 2 rfl) ?_
        exact q_iret hx hb hr hlk (by rw [show j = k by omega]) hP hS dX0_greatestGroupBefore_29
      · have c_6 := nI_le0 (a := k) (b := j) (by omega) (by omega) c_6
        refine lv_iload_n hx hb dX0_greatestGroupBefore_9 rfl (lv_at hl 2 rfl) ?_
        refine lv_aload_n hx hb dX0_greatestGroupBefore_10 rfl (lv_at hl 0 rfl) ?_
        refine q_get hx hb hT hown hK hP kw_X0 0 rfl rfl 4 (by decide) kf_X0_29 rfl (v := .ref (ad 28)) rfl dX0_greatestGroupBefore_11 ?_
        refine lv_iload_n hx hb dX0_greatestGroupBefore_14 rfl (lv_at hl 3 rfl) ?_
        refine q_callI (As := [.int (nI j)]) (r := g 28 j) (wc := rowW cA (ad 28) (ad 58) 6 (g 28)) (w1 := rowW cA (ad 28) (ad 58) 6 (g 28)) (ws1 := gpW cA ad g z) hx hb hml hown hT hK hP hD hS hA (c_X3_atN l D cA (ad 28) (ad 58) 6 (g 28) j (by omega) (by omega)) k_X3_at kl_X0_40 (q0 := 0) rfl rfl rfl [9, 10] rfl rfl rfl rfl hl rfl rfl (Nat.le_of_ble_eq_true rfl) ⟨⟨rfl, rfl⟩, Nat.le_of_ble_eq_true rfl, Nat.le_of_ble_eq_true rfl⟩ ⟨Nat.zero_le _, Nat.zero_le _⟩ dX0_greatestGroupBefore_15 (fun H locs hP hD hS => ?_)
        refine q_max hx hb hml hown hT hl kl_X0_55 (Nat.le_of_ble_eq_true rfl) (Nat.le_of_ble_eq_true rfl) ⟨Nat.zero_le _, Nat.zero_le _⟩ dX0_greatestGroupBefore_18 ?_
        refine q_top (y := ggb (g 28) (j + 1)) (rfl) ?_
        refine lv_istore_n (lv' := [(2, .int (ggb (g 28) (j + 1))), (0, .ref (ad 73)), (1, .int (nI k)), (3, .int (nI j))]) hx hb dX0_greatestGroupBefore_21 rfl hl (by decide) rfl (fun ls hl => ?_)
        refine lv_iinc (v := nI (j + 1)) (lv' := [(3, .int (nI (j + 1))), (2, .int (ggb (g 28) (j + 1))), (0, .ref (ad 73)), (1, .int (nI k))]) hx hb dX0_greatestGroupBefore_22 hl (k := 3) rfl (q_inc1 _) (by decide) rfl (fun ls hl => ?_)
        refine lv_goto (tgt := 4) hx hb dX0_greatestGroupBefore_25 (by decide) ?_
        exact ih4 (j + 1) (by omega) (by omega) _ _ _ hP hD hS (lv_sub hl [2, 3, 1, 0] rfl)
  refine lv_iconst (v := nI 0) hx hb dX0_greatestGroupBefore_0 (by decide +kernel) ?_
  refine lv_istore_n (lv' := [(2, .int (nI 0)), (0, .ref (ad 73)), (1, .int (nI k))]) hx hb dX0_greatestGroupBefore_1 rfl hl (by decide) rfl (fun ls hl => ?_)
  refine lv_iconst (v := nI 0) hx hb dX0_greatestGroupBefore_2 (by decide +kernel) ?_
  refine lv_istore_n (lv' := [(3, .int (nI 0)), (2, .int (nI 0)), (0, .ref (ad 73)), (1, .int (nI k))]) hx hb dX0_greatestGroupBefore_3 rfl hl (by decide) rfl (fun ls hl => ?_)
  have e9_0 : (nI 0) = (ggb (g 28) 0) := by first | with_reducible rfl | (rfl)
  have hl9 : lv_has ls 4 [(0, .ref (ad 73)), (1, .int (nI k)), (2, .int (ggb (g 28) 0)), (3, .int (nI 0))] := lv_cast (l := [(0, .ref (ad 73)), (1, .int (nI k)), (2, .int (nI 0)), (3, .int (nI 0))]) (lv_sub hl [2, 3, 1, 0] rfl) (congrArg (fun v9 : Int32 => ([(0, .ref (ad 73)), (1, .int (nI k)), (2, .int v9), (3, .int (nI 0))] : List (Nat × Value))) e9_0)
  exact zqL4 (k + 1) 0 (by omega) (by omega) _ _ _ hP hD hS hl9
abbrev rm_X0_goOnToNext : Room := { frames := 2, cells := 0, slots := 0, locals := 44 }
set_option maxRecDepth 100000 in
set_option maxHeartbeats 4000000 in
theorem c_X0_goOnToNext (l : Launch) (D : va_G) (cA : ClassId) (ad : Nat → Nat) (g : Nat → Nat → Int32) (z : Nat → Nat)  (hz : (z 3) ≤ 6) : q_CI l yX0_goOnToNext [Cond.code yX0_goOnToNext cX0_goOnToNext 2 (some .boolean)] rm_X0_goOnToNext D cA [.ref (ad 73)] (gpW cA ad g z) (q_b (goB (g 28) (z 3))) (gpW cA ad (gs g 28 (goG (g 28) (z 3))) z) := by
  refine q_startI RX0 (by decide +kernel) rfl (Nat.le_of_ble_eq_true rfl) ?_
  intro p e s m below meth c A args H locs ls hx hb hr hml hown hT hlk hP hK hD hA hS hl
  have hl : lv_has ls 2 [(0, .ref (ad 73))] := hl
  have zqL7 : ∀ (fu : Nat), ∀ (pp : Nat) (gr : Nat → Int32), (pp + 1 ≤ fu) → (pp ≤ 6) → (goG gr pp = goG (g 28) (z 3) ∧ goB gr pp = goB (g 28) (z 3)) → ∀ (H : Heap) (locs : List Loc) (ls : Array Slot), va_P D vwCl (gpW cA ad (gs g 28 gr) z) H → va_D A (gpW cA ad (gs g 28 gr) z) → va_S A s.heap H locs → lv_has ls 2 [(0, .ref (ad 73)), (1, .int (pm pp))] → W p l e rm_X0_goOnToNext s m args below meth c H locs 0 0 (q_GI D (q_b (goB (g 28) (z 3))) (gpW cA ad (gs g 28 (goG (g 28) (z 3))) z) A below args s) (F0 m 7 ls []) := by
    intro fu
    induction fu with
    | zero =>
      intro pp gr hfu hp he H locs ls hP hD hS hl
      exfalso; omega
    | succ fu ih7 =>
      intro pp gr hfu hp he H locs ls hP hD hS hl
      have zqJ11 : ∀ (k : Nat), (0 < k) → (k < 6) → (pp = k + 1) → (goG gr (k + 1) = goG (g 28) (z 3) ∧ goB gr (k + 1) = goB (g 28) (z 3)) → ∀ (H : Heap) (locs : List Loc) (ls : Array Slot), va_P D vwCl (gpW cA ad (gs g 28 gr) z) H → va_D A (gpW cA ad (gs g 28 gr) z) → va_S A s.heap H locs → lv_has ls 2 [(0, .ref (ad 73)), (1, .int (nI k))] → W p l e rm_X0_goOnToNext s m args below meth c H locs 0 0 (q_GI D (q_b (goB (g 28) (z 3))) (gpW cA ad (gs g 28 (goG (g 28) (z 3))) z) A below args s) (F0 m 11 ls []) := by
        intro k hk hk6 hkp he2 H locs ls hP hD hS hl
        refine lv_aload_n hx hb dX0_goOnToNext_11 rfl (lv_at hl 0 rfl) ?_
        refine q_get hx hb hT hown hK hP kw_X0 0 rfl rfl 4 (by decide) kf_X0_29 rfl (v := .ref (ad 28)) rfl dX0_goOnToNext_12 ?_
        refine lv_iload_n hx hb dX0_goOnToNext_15 rfl (lv_at hl 1 rfl) ?_
        refine q_callI (As := [.int (nI k)]) (r := gr k) (wc := rowW cA (ad 28) (ad 58) 6 gr) (w1 := rowW cA (ad 28) (ad 58) 6 gr) (ws1 := gpW cA ad (gs g 28 gr) z) hx hb hml hown hT hK hP hD hS hA (c_X3_atN l D cA (ad 28) (ad 58) 6 gr k (by omega) (by omega)) k_X3_at kl_X0_40 (q0 := 0) rfl rfl rfl [9, 10] rfl rfl rfl rfl hl rfl rfl (Nat.le_of_ble_eq_true rfl) ⟨⟨rfl, rfl⟩, Nat.le_of_ble_eq_true rfl, Nat.le_of_ble_eq_true rfl⟩ ⟨Nat.zero_le _, Nat.zero_le _⟩ dX0_goOnToNext_16 (fun H locs hP hD hS => ?_)
        refine lv_aload_n hx hb dX0_goOnToNext_19 rfl (lv_at hl 0 rfl) ?_
        refine lv_iload_n hx hb dX0_goOnToNext_20 rfl (lv_at hl 1 rfl) ?_
        refine q_callIW (As := [.int (nI k)]) (r := ggb gr k) (w1 := gpW cA ad (gs g 28 gr) z) hx hb hml hown hT hK hP hD hS hA (c_X0_greatestGroupBefore l D cA ad (gs g 28 gr) z k (show k ≤ 6 by omega)) k_X0_greatestGroupBefore kl_X0_71 (q0 := 0) rfl rfl rfl ((gpW_adr _ _ _ _).trans (gpW_adr _ _ _ _).symm) hl rfl rfl (Nat.le_of_ble_eq_true rfl) ⟨⟨rfl, rfl⟩, Nat.le_of_ble_eq_true rfl, Nat.le_of_ble_eq_true rfl⟩ ⟨Nat.zero_le _, Nat.zero_le _⟩ dX0_goOnToNext_21 (fun H locs hP hD hS => ?_)
        refine lv_icmp_gt (tgt := 47) hx hb dX0_goOnToNext_24 (by decide) (fun c_24 => ?_) (fun c_24 => ?_)
        · have d_24 : ¬ gr k ≤ ggb gr k := q_gt_of c_24
          refine lv_aload_n hx hb dX0_goOnToNext_47 rfl (lv_at hl 0 rfl) ?_
          refine q_get hx hb hT hown hK hP kw_X0 0 rfl rfl 4 (by decide) kf_X0_29 rfl (v := .ref (ad 28)) rfl dX0_goOnToNext_48 ?_
          refine lv_iload_n hx hb dX0_goOnToNext_51 rfl (lv_at hl 1 rfl) ?_
          refine lv_iconst (v := nI 0) hx hb dX0_goOnToNext_52 (by decide +kernel) ?_
          refine q_callV (As := [.int (nI k), .int (nI 0)]) (wc := rowW cA (ad 28) (ad 58) 6 gr) (w1 := rowW cA (ad 28) (ad 58) 6 (upd gr k (nI 0))) (ws1 := gpW cA ad (gs g 28 (upd gr k (nI 0))) z) hx hb hml hown hT hK hP hD hS hA (c_X3_putN l D cA (ad 28) (ad 58) 6 gr k (nI 0) (by omega) (by omega)) k_X3_put kl_X0_36 (q0 := 0) rfl rfl rfl [9, 10] rfl rfl rfl rfl hl rfl rfl (Nat.le_of_ble_eq_true rfl) ⟨⟨rfl, rfl⟩, Nat.le_of_ble_eq_true rfl, Nat.le_of_ble_eq_true rfl⟩ ⟨Nat.zero_le _, Nat.zero_le _⟩ dX0_goOnToNext_53 (fun H locs hP hD hS => ?_)
          obtain ⟨nF53_28, enF53_28⟩ : ∃ y : Nat → Int32, y = upd gr k (nI 0) := ⟨_, rfl⟩
          have hP : va_P D vwCl (gpW cA ad (gs g 28 nF53_28) z) H := by rw [enF53_28]; exact hP
          have hD : va_D A (gpW cA ad (gs g 28 nF53_28) z) := by rw [enF53_28]; exact hD
          refine lv_iinc (v := nI (k - 1)) (lv' := [(1, .int (nI (k - 1))), (0, .ref (ad 73))]) hx hb dX0_goOnToNext_56 hl (k := 1) rfl (q_dec1 (by omega)) (by decide) rfl (fun ls hl => ?_)
          refine lv_goto (tgt := 7) hx hb dX0_goOnToNext_59 (by decide) ?_
          rw [enF53_28] at hP hD
          have e9_0 : (nI (k - 1)) = (pm k) := by first | with_reducible rfl | (exact pm_s (by omega))
          have hl9 : lv_has ls 2 [(0, .ref (ad 73)), (1, .int (pm k))] := lv_cast (l := [(0, .ref (ad 73)), (1, .int (nI (k - 1)))]) (lv_sub hl [1, 0] rfl) (congrArg (fun v9 : Int32 => ([(0, .ref (ad 73)), (1, .int v9)] : List (Nat × Value))) e9_0)
          exact ih7 k (upd gr k (nI 0)) (by omega) (by omega) ⟨(goG_f (by omega) d_24).1.symm.trans he2.1, (goG_f (by omega) d_24).2.symm.trans he2.2⟩ _ _ _ hP hD hS hl9
        · have d_24 : gr k ≤ ggb gr k := q_le_of c_24
          refine lv_aload_n hx hb dX0_goOnToNext_27 rfl (lv_at hl 0 rfl) ?_
          refine q_get hx hb hT hown hK hP kw_X0 0 rfl rfl 4 (by decide) kf_X0_29 rfl (v := .ref (ad 28)) rfl dX0_goOnToNext_28 ?_
          refine lv_iload_n hx hb dX0_goOnToNext_31 rfl (lv_at hl 1 rfl) ?_
          refine lv_aload_n hx hb dX0_goOnToNext_32 rfl (lv_at hl 0 rfl) ?_
          refine q_get hx hb hT hown hK hP kw_X0 0 rfl rfl 4 (by decide) kf_X0_29 rfl (v := .ref (ad 28)) rfl dX0_goOnToNext_33 ?_
          refine lv_iload_n hx hb dX0_goOnToNext_36 rfl (lv_at hl 1 rfl) ?_
          refine q_callI (As := [.int (nI k)]) (r := gr k) (wc := rowW cA (ad 28) (ad 58) 6 gr) (w1 := rowW cA (ad 28) (ad 58) 6 gr) (ws1 := gpW cA ad (gs g 28 gr) z) hx hb hml hown hT hK hP hD hS hA (c_X3_atN l D cA (ad 28) (ad 58) 6 gr k (by omega) (by omega)) k_X3_at kl_X0_40 (q0 := 0) rfl rfl rfl [9, 10] rfl rfl rfl rfl hl rfl rfl (Nat.le_of_ble_eq_true rfl) ⟨⟨rfl, rfl⟩, Nat.le_of_ble_eq_true rfl, Nat.le_of_ble_eq_true rfl⟩ ⟨Nat.zero_le _, Nat.zero_le _⟩ dX0_goOnToNext_37 (fun H locs hP hD hS => ?_)
          refine lv_iconst (v := nI 1) hx hb dX0_goOnToNext_40 (by decide +kernel) ?_
          refine lv_iadd hx hb dX0_goOnToNext_41 ?_
          refine q_callV (As := [.int (nI k), .int ((gr k) + (nI 1))]) (wc := rowW cA (ad 28) (ad 58) 6 gr) (w1 := rowW cA (ad 28) (ad 58) 6 (upd gr k ((gr k) + (nI 1)))) (ws1 := gpW cA ad (gs g 28 (upd gr k ((gr k) + (nI 1)))) z) hx hb hml hown hT hK hP hD hS hA (c_X3_putN l D cA (ad 28) (ad 58) 6 gr k ((gr k) + (nI 1)) (by omega) (by omega)) k_X3_put kl_X0_36 (q0 := 0) rfl rfl rfl [9, 10] rfl rfl rfl rfl hl rfl rfl (Nat.le_of_ble_eq_true rfl) ⟨⟨rfl, rfl⟩, Nat.le_of_ble_eq_true rfl, Nat.le_of_ble_eq_true rfl⟩ ⟨Nat.zero_le _, Nat.zero_le _⟩ dX0_goOnToNext_42 (fun H locs hP hD hS => ?_)
          obtain ⟨nF42_28, enF42_28⟩ : ∃ y : Nat → Int32, y = upd gr k ((gr k) + (nI 1)) := ⟨_, rfl⟩
          have hP : va_P D vwCl (gpW cA ad (gs g 28 nF42_28) z) H := by rw [enF42_28]; exact hP
          have hD : va_D A (gpW cA ad (gs g 28 nF42_28) z) := by rw [enF42_28]; exact hD
          refine lv_iconst (v := nI 1) hx hb dX0_goOnToNext_45 (by decide +kernel) ?_
          rw [enF42_28] at hP hD
          exact q_zret hx hb hr hlk (Or.inr rfl) (by exact q_bt (by rw [← he2.2, (goG_t hk d_24).2])) (va_cast' hP (by rw [← he2.1, (goG_t hk d_24).1])) hS dX0_goOnToNext_46
      refine lv_iload_n hx hb dX0_goOnToNext_7 rfl (lv_at hl 1 rfl) ?_
      refine lv_if_le (tgt := 62) hx hb dX0_goOnToNext_8 (by decide) (fun c_8 => ?_) (fun c_8 => ?_)
      · have d_8 := pm_le (by omega) c_8
        refine lv_iconst (v := nI 0) hx hb dX0_goOnToNext_62 (by decide +kernel) ?_
        exact q_zret hx hb hr hlk (Or.inl rfl) (by exact q_bf (by rw [← he.2, (goG_1 d_8).2])) (va_cast' hP (by rw [← he.1, (goG_1 d_8).1])) hS dX0_goOnToNext_63
      · have d_8 := pm_gt _ (by omega) c_8
        have e9_0 : (pm pp) = (nI (pp - 1)) := by first | with_reducible rfl | (exact (pm_s (by omega)).symm)
        have hl9 : lv_has ls 2 [(0, .ref (ad 73)), (1, .int (nI (pp - 1)))] := lv_cast (l := [(0, .ref (ad 73)), (1, .int (pm pp))]) (lv_sub hl [0, 1] rfl) (congrArg (fun v9 : Int32 => ([(0, .ref (ad 73)), (1, .int v9)] : List (Nat × Value))) e9_0)
        exact zqJ11 (pp - 1) (by omega) (by omega) (by omega) (by rw [show pp - 1 + 1 = pp by omega]; exact he) _ _ _ hP hD hS hl9
  refine lv_aload_n hx hb dX0_goOnToNext_0 rfl (lv_at hl 0 rfl) ?_
  refine q_get hx hb hT hown hK hP kw_X0 0 rfl rfl 5 (by decide) kf_X0_32 rfl (v := .int (nI (z 3))) rfl dX0_goOnToNext_1 ?_
  refine lv_iconst (v := nI 1) hx hb dX0_goOnToNext_4 (by decide +kernel) ?_
  refine lv_isub hx hb dX0_goOnToNext_5 ?_
  refine q_top (y := pm (z 3)) (rfl) ?_
  refine lv_istore_n (lv' := [(1, .int (pm (z 3))), (0, .ref (ad 73))]) hx hb dX0_goOnToNext_6 rfl hl (by decide) rfl (fun ls hl => ?_)
  have ew9 : (gpW cA ad g z) = (gpW cA ad (gs g 28 (g 28)) z) := by first | with_reducible rfl | (rfl)
  have hP : va_P D vwCl (gpW cA ad (gs g 28 (g 28)) z) H := va_cast' hP ew9
  have hD : va_D A (gpW cA ad (gs g 28 (g 28)) z) := va_castD hD ew9
  exact zqL7 (z 3 + 1) (z 3) (g 28) (by omega) (by omega) ⟨rfl, rfl⟩ _ _ _ hP hD hS (lv_sub hl [1, 0] rfl)
abbrev rm_X0_bestOfAll : Room := { frames := 3, cells := 0, slots := 0, locals := 67 }
set_option maxRecDepth 100000 in
set_option maxHeartbeats 4000000 in
theorem c_X0_bestOfAll (l : Launch) (D : va_G) (cA : ClassId) (ad : Nat → Nat) (g : Nat → Nat → Int32) (z : Nat → Nat)  (hz : (z 3) ≤ 6) : q_CI l yX0_bestOfAll [Cond.code yX0_bestOfAll cX0_bestOfAll 3 (some .int)] rm_X0_bestOfAll D cA [.ref (ad 73)] (gpW cA ad g z) (baF (g 25) (z 3) 202 (fun _ => nI 0) (wOf (groT (fun _ => nI 0)) (g 25) (z 3))) (gpW cA ad (gs g 28 (baG (z 3) 202 (fun _ => nI 0))) z) := by
  refine q_startI RX0 (by decide +kernel) rfl (Nat.le_of_ble_eq_true rfl) ?_
  intro p e s m below meth c A args H locs ls hx hb hr hml hown hT hlk hP hK hD hA hS hl
  have hl : lv_has ls 3 [(0, .ref (ad 73))] := hl
  have zqL15 : ∀ (fu : Nat), ∀ (k : Nat) (gr : Nat → Int32) (b : Int32), (203 ≤ k + fu) → (k ≤ 202) → (baF (g 25) (z 3) (202 - k) gr b = baF (g 25) (z 3) 202 (fun _ => nI 0) (wOf (groT (fun _ => nI 0)) (g 25) (z 3)) ∧ baG (z 3) (202 - k) gr = baG (z 3) 202 (fun _ => nI 0)) → ∀ (H : Heap) (locs : List Loc) (ls : Array Slot), va_P D vwCl (gpW cA ad (gs g 28 gr) z) H → va_D A (gpW cA ad (gs g 28 gr) z) → va_S A s.heap H locs → lv_has ls 3 [(0, .ref (ad 73)), (1, .int b), (2, .int (nI (k + 1)))] → W p l e rm_X0_bestOfAll s m args below meth c H locs 0 0 (q_GI D (baF (g 25) (z 3) 202 (fun _ => nI 0) (wOf (groT (fun _ => nI 0)) (g 25) (z 3))) (gpW cA ad (gs g 28 (baG (z 3) 202 (fun _ => nI 0))) z) A below args s) (F0 m 15 ls []) := by
    intro fu
    induction fu with
    | zero =>
      intro k gr b hfu hk he H locs ls hP hD hS hl
      exfalso; omega
    | succ fu ih15 =>
      intro k gr b hfu hk he H locs ls hP hD hS hl
      refine lv_iload_n hx hb dX0_bestOfAll_15 rfl (lv_at hl 2 rfl) ?_
      refine lv_sipush (v := nI 203) hx hb dX0_bestOfAll_16 (by decide +kernel) ?_
      refine lv_icmp_ge (tgt := 44) hx hb dX0_bestOfAll_19 (by decide) (fun c_19 => ?_) (fun c_19 => ?_)
      · have c_19 := nI_le1 (a := 203) (b := k + 1) (by omega) (by omega) c_19
        refine lv_iload_n hx hb dX0_bestOfAll_44 rfl (lv_at hl 1 rfl) ?_
        exact q_iret hx hb hr hlk (by first | (rw [show 202 - k = 0 by omega] at he; exact he.1) | (rw [show 202 - k = (202 - (k + 1)) + 1 by omega, baF, baG, c_26] at he; exact he.1)) (va_cast' hP (by first | (rw [show 202 - k = 0 by omega] at he; rw [← he.2]; rfl) | (rw [show 202 - k = (202 - (k + 1)) + 1 by omega, baF, baG, c_26] at he; rw [← he.2]; rfl))) hS dX0_bestOfAll_45
      · have c_19 := nI_le0 (a := 203) (b := k + 1) (by omega) (by omega) c_19
        refine lv_aload_n hx hb dX0_bestOfAll_22 rfl (lv_at hl 0 rfl) ?_
        refine q_callIW (As := []) (r := q_b (goB gr (z 3))) (w1 := gpW cA ad (gs g 28 (goG gr (z 3))) z) hx hb hml hown hT hK hP hD hS hA (c_X0_goOnToNext l D cA ad (gs g 28 gr) z (show (z 3) ≤ 6 by omega)) k_X0_goOnToNext kl_X0_67 (q0 := 0) rfl rfl rfl ((gpW_adr _ _ _ _).trans (gpW_adr _ _ _ _).symm) hl rfl rfl (Nat.le_of_ble_eq_true rfl) ⟨⟨rfl, rfl⟩, Nat.le_of_ble_eq_true rfl, Nat.le_of_ble_eq_true rfl⟩ ⟨Nat.zero_le _, Nat.zero_le _⟩ dX0_bestOfAll_23 (fun H locs hP hD hS => ?_)
        obtain ⟨nF23_28, enF23_28⟩ : ∃ y : Nat → Int32, y = goG gr (z 3) := ⟨_, rfl⟩
        have hP : va_P D vwCl (gpW cA ad (gs g 28 nF23_28) z) H := by rw [enF23_28]; exact hP
        have hD : va_D A (gpW cA ad (gs g 28 nF23_28) z) := by rw [enF23_28]; exact hD
        refine lv_if_eq (tgt := 44) hx hb dX0_bestOfAll_26 (by decide) (fun c_26 => ?_) (fun c_26 => ?_)
        · have c_26 := q_b0e c_26
          refine lv_iload_n hx hb dX0_bestOfAll_44 rfl (lv_at hl 1 rfl) ?_
          rw [enF23_28] at hP hD
          exact q_iret hx hb hr hlk (by first | (rw [show 202 - k = 0 by omega] at he; exact he.1) | (rw [show 202 - k = (202 - (k + 1)) + 1 by omega, baF, baG, c_26] at he; exact he.1)) (va_cast' hP (by first | (rw [show 202 - k = 0 by omega] at he; rw [← he.2]; rfl) | (rw [show 202 - k = (202 - (k + 1)) + 1 by omega, baF, baG, c_26] at he; rw [← he.2]; rfl))) hS dX0_bestOfAll_45
        · have c_26 := q_b0n c_26
          refine lv_iload_n hx hb dX0_bestOfAll_29 rfl (lv_at hl 1 rfl) ?_
          refine lv_aload_n hx hb dX0_bestOfAll_30 rfl (lv_at hl 0 rfl) ?_
          refine q_callIW (As := []) (r := wOf (groT nF23_28) (g 25) (z 3)) (w1 := gpW cA ad (gs g 28 nF23_28) z) hx hb hml hown hT hK hP hD hS hA (c_X0_worthOfGrouping l D cA ad (gs g 28 nF23_28) z (show (z 3) ≤ 6 by omega)) k_X0_worthOfGrouping kl_X0_63 (q0 := 0) rfl rfl rfl ((gpW_adr _ _ _ _).trans (gpW_adr _ _ _ _).symm) hl rfl rfl (Nat.le_of_ble_eq_true rfl) ⟨⟨rfl, rfl⟩, Nat.le_of_ble_eq_true rfl, Nat.le_of_ble_eq_true rfl⟩ ⟨Nat.zero_le _, Nat.zero_le _⟩ dX0_bestOfAll_31 (fun H locs hP hD hS => ?_)
          refine q_max hx hb hml hown hT hl kl_X0_55 (Nat.le_of_ble_eq_true rfl) (Nat.le_of_ble_eq_true rfl) ⟨Nat.zero_le _, Nat.zero_le _⟩ dX0_bestOfAll_34 ?_
          refine q_top (y := mx b (wOf (groT (goG gr (z 3))) (g 25) (z 3))) (by rw [enF23_28]; rfl) ?_
          refine lv_istore_n (lv' := [(1, .int (mx b (wOf (groT (goG gr (z 3))) (g 25) (z 3)))), (0, .ref (ad 73)), (2, .int (nI (k + 1)))]) hx hb dX0_bestOfAll_37 rfl hl (by decide) rfl (fun ls hl => ?_)
          refine lv_iinc (v := nI (k + 2)) (lv' := [(2, .int (nI (k + 2))), (1, .int (mx b (wOf (groT (goG gr (z 3))) (g 25) (z 3)))), (0, .ref (ad 73))]) hx hb dX0_bestOfAll_38 hl (k := 2) rfl (q_inc1 _) (by decide) rfl (fun ls hl => ?_)
          refine lv_goto (tgt := 15) hx hb dX0_bestOfAll_41 (by decide) ?_
          rw [enF23_28] at hP hD
          have e9_0 : (nI (k + 2)) = (nI ((k + 1) + 1)) := by first | with_reducible rfl | (rfl)
          have hl9 : lv_has ls 3 [(0, .ref (ad 73)), (1, .int (mx b (wOf (groT (goG gr (z 3))) (g 25) (z 3)))), (2, .int (nI ((k + 1) + 1)))] := lv_cast (l := [(0, .ref (ad 73)), (1, .int (mx b (wOf (groT (goG gr (z 3))) (g 25) (z 3)))), (2, .int (nI (k + 2)))]) (lv_sub hl [2, 1, 0] rfl) (congrArg (fun v9 : Int32 => ([(0, .ref (ad 73)), (1, .int (mx b (wOf (groT (goG gr (z 3))) (g 25) (z 3)))), (2, .int v9)] : List (Nat × Value))) e9_0)
          exact ih15 (k + 1) (goG gr (z 3)) (mx b (wOf (groT (goG gr (z 3))) (g 25) (z 3))) (by omega) (by omega) (by rw [show 202 - k = (202 - (k + 1)) + 1 by omega, baF, baG, c_26] at he; exact he) _ _ _ hP hD hS hl9
  refine lv_aload_n hx hb dX0_bestOfAll_0 rfl (lv_at hl 0 rfl) ?_
  refine q_get hx hb hT hown hK hP kw_X0 0 rfl rfl 4 (by decide) kf_X0_29 rfl (v := .ref (ad 28)) rfl dX0_bestOfAll_1 ?_
  refine lv_iconst (v := nI 0) hx hb dX0_bestOfAll_4 (by decide +kernel) ?_
  refine q_callV (As := [.int (nI 0)]) (wc := rowW cA (ad 28) (ad 58) 6 (g 28)) (w1 := rowW cA (ad 28) (ad 58) 6 (fun _ => nI 0)) (ws1 := gpW cA ad (gs g 28 (fun _ => nI 0)) z) hx hb hml hown hT hK hP hD hS hA (c_X3_fill l D cA (ad 28) (ad 58) 6 (g 28) (nI 0) (by omega)) k_X3_fill kl_X0_60 (q0 := 0) rfl rfl rfl [9, 10] rfl rfl rfl rfl hl rfl rfl (Nat.le_of_ble_eq_true rfl) ⟨⟨rfl, rfl⟩, Nat.le_of_ble_eq_true rfl, Nat.le_of_ble_eq_true rfl⟩ ⟨Nat.zero_le _, Nat.zero_le _⟩ dX0_bestOfAll_5 (fun H locs hP hD hS => ?_)
  obtain ⟨nF5_28, enF5_28⟩ : ∃ y : Nat → Int32, y = (fun _ => nI 0) := ⟨_, rfl⟩
  have hP : va_P D vwCl (gpW cA ad (gs g 28 nF5_28) z) H := by rw [enF5_28]; exact hP
  have hD : va_D A (gpW cA ad (gs g 28 nF5_28) z) := by rw [enF5_28]; exact hD
  refine lv_aload_n hx hb dX0_bestOfAll_8 rfl (lv_at hl 0 rfl) ?_
  refine q_callIW (As := []) (r := wOf (groT nF5_28) (g 25) (z 3)) (w1 := gpW cA ad (gs g 28 nF5_28) z) hx hb hml hown hT hK hP hD hS hA (c_X0_worthOfGrouping l D cA ad (gs g 28 nF5_28) z (show (z 3) ≤ 6 by omega)) k_X0_worthOfGrouping kl_X0_63 (q0 := 0) rfl rfl rfl ((gpW_adr _ _ _ _).trans (gpW_adr _ _ _ _).symm) hl rfl rfl (Nat.le_of_ble_eq_true rfl) ⟨⟨rfl, rfl⟩, Nat.le_of_ble_eq_true rfl, Nat.le_of_ble_eq_true rfl⟩ ⟨Nat.zero_le _, Nat.zero_le _⟩ dX0_bestOfAll_9 (fun H locs hP hD hS => ?_)
  refine lv_istore_n (lv' := [(1, .int (wOf (groT nF5_28) (g 25) (z 3))), (0, .ref (ad 73))]) hx hb dX0_bestOfAll_12 rfl hl (by decide) rfl (fun ls hl => ?_)
  refine lv_iconst (v := nI 1) hx hb dX0_bestOfAll_13 (by decide +kernel) ?_
  refine lv_istore_n (lv' := [(2, .int (nI 1)), (1, .int (wOf (groT nF5_28) (g 25) (z 3))), (0, .ref (ad 73))]) hx hb dX0_bestOfAll_14 rfl hl (by decide) rfl (fun ls hl => ?_)
  rw [enF5_28] at hP hD
  rw [enF5_28] at hl
  have e9_0 : (nI 1) = (nI (0 + 1)) := by first | with_reducible rfl | (rfl)
  have hl9 : lv_has ls 3 [(0, .ref (ad 73)), (1, .int (wOf (groT (fun _ => nI 0)) (g 25) (z 3))), (2, .int (nI (0 + 1)))] := lv_cast (l := [(0, .ref (ad 73)), (1, .int (wOf (groT (fun _ => nI 0)) (g 25) (z 3))), (2, .int (nI 1))]) (lv_sub hl [2, 1, 0] rfl) (congrArg (fun v9 : Int32 => ([(0, .ref (ad 73)), (1, .int (wOf (groT (fun _ => nI 0)) (g 25) (z 3))), (2, .int v9)] : List (Nat × Value))) e9_0)
  exact zqL15 (203) 0 (fun _ => nI 0) (wOf (groT (fun _ => nI 0)) (g 25) (z 3)) (by omega) (by omega) ⟨rfl, rfl⟩ _ _ _ hP hD hS hl9
