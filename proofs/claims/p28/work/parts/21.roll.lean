/-! what two mentions share -/
def kn (x y : Int32) : Bool := decide (x = y ∧ ¬ x = (-1))
/-- weight -/
def wtN (g : Nat → Nat → Int32) (i j : Nat) : Nat :=
  (if g 0 i = g 0 j then 2 else 0) + (if kn (g 1 i) (g 1 j) = true then 3 else 0) + (if g 2 i = g 2 j then 1 else 0) + (if kn (g 3 i) (g 3 j) = true then 2 else 0) + (if hasB (g 9 i) (nI j) = true then 5 else 0)
theorem q_inc2 (k : Nat) : nI k + Int32.ofInt 2 = nI (k + 2) := nI_add k 2
theorem q_inc3 (k : Nat) : nI k + Int32.ofInt 3 = nI (k + 3) := nI_add k 3
/-- other families -/
def hof (x y : Int32) : Bool := decide (¬ x = (-1) ∧ ¬ y = (-1) ∧ ¬ x = y)
def abo (g : Nat → Nat → Int32) (i j : Nat) : Bool := decide (¬ g 3 i = (-1) ∧ ¬ g 3 j = (-1) ∧ hasB (rAt 8 (g 8) (g 3 i)) (g 3 j) = true ∧ g 17 i = g 18 i ∧ g 17 j = g 18 j ∧ g 17 i = g 17 j)
/-- the reason that two have -/
def rop (g : Nat → Nat → Int32) (i j : Nat) : Nat := if hasB (g 10 i) (nI j) = true then 2 else if hof (g 1 i) (g 1 j) = true then 3 else if abo g i j = true then 4 else 6
def raN (g : Nat → Nat → Int32) (i : Nat) (w : Int32) : Nat → Nat
  | 0 => 6
  | k + 1 => if g 22 k = w then min (raN g i w k) (rop g i k) else raN g i w k
def raA (g : Nat → Nat → Int32) (c0 i j : Nat) : Nat → Nat
  | 0 => if wtN g i j < 4 then 5 else 6
  | k + 1 => if g 22 k = g 22 i then min (raA g c0 i j k) (raN g k (g 22 j) c0) else raA g c0 i j k
def raG (g : Nat → Nat → Int32) (c0 i j : Nat) : Nat := if g 22 i = g 22 j then 1 else if raA g c0 i j c0 = 6 then 0 else raA g c0 i j c0
theorem rop_le (g : Nat → Nat → Int32) (i j : Nat) : rop g i j ≤ 6 := by unfold rop; split <;> (try omega); split <;> (try omega); split <;> omega
theorem raN_le (g : Nat → Nat → Int32) (i : Nat) (w : Int32) : ∀ k, raN g i w k ≤ 6
  | 0 => Nat.le_refl 6
  | k + 1 => by
    have := raN_le g i w k
    rw [raN]; split
    · exact Nat.le_trans (Nat.min_le_left _ _) this
    · exact this
theorem raA_le (g : Nat → Nat → Int32) (c0 i j : Nat) : ∀ k, raA g c0 i j k ≤ 6
  | 0 => by rw [raA]; split <;> omega
  | k + 1 => by
    have := raA_le g c0 i j k
    rw [raA]; split
    · exact Nat.le_trans (Nat.min_le_left _ _) this
    · exact this
theorem raN_t {g : Nat → Nat → Int32} {i k : Nat} {w : Int32} (h : g 22 k = w) : min (raN g i w k) (rop g i k) = raN g i w (k + 1) := by rw [raN, if_pos h]
theorem raN_f {g : Nat → Nat → Int32} {i k : Nat} {w : Int32} (h : ¬ g 22 k = w) : raN g i w k = raN g i w (k + 1) := by rw [raN, if_neg h]
theorem raA_t {g : Nat → Nat → Int32} {c0 i j k : Nat} (h : g 22 k = g 22 i) : min (raA g c0 i j k) (raN g k (g 22 j) c0) = raA g c0 i j (k + 1) := by rw [raA, if_pos h]
theorem raA_f {g : Nat → Nat → Int32} {c0 i j k : Nat} (h : ¬ g 22 k = g 22 i) : raA g c0 i j k = raA g c0 i j (k + 1) := by rw [raA, if_neg h]
def cntN (f : Nat → Int32) (w : Int32) : Nat → Nat
  | 0 => 0
  | k + 1 => if f k = w then cntN f w k + 1 else cntN f w k
theorem cntN_le (f : Nat → Int32) (w : Int32) : ∀ k, cntN f w k ≤ k
  | 0 => Nat.le_refl 0
  | k + 1 => by
    have := cntN_le f w k
    rw [cntN]; split <;> omega
theorem cntN_t {f : Nat → Int32} {w : Int32} {k : Nat} (h : f k = w) : cntN f w k + 1 = cntN f w (k + 1) := by rw [cntN, if_pos h]
theorem cntN_f {f : Nat → Int32} {w : Int32} {k : Nat} (h : ¬ f k = w) : cntN f w k = cntN f w (k + 1) := by rw [cntN, if_neg h]
def wop (g : Nat → Nat → Int32) (i j : Nat) : Int32 := if hasB (g 10 i) (nI j) = true ∨ hof (g 1 i) (g 1 j) = true then (-1000000) else nI (wtN g i j) - nI 3
theorem wtN_le (g : Nat → Nat → Int32) (i j : Nat) : wtN g i j ≤ 13 := by
  unfold wtN
  have h1 : (if g 0 i = g 0 j then 2 else 0) ≤ 2 := by split <;> omega
  have h2 : (if kn (g 1 i) (g 1 j) = true then 3 else 0) ≤ 3 := by split <;> omega
  have h3 : (if g 2 i = g 2 j then 1 else 0) ≤ 1 := by split <;> omega
  have h4 : (if kn (g 3 i) (g 3 j) = true then 2 else 0) ≤ 2 := by split <;> omega
  have h5 : (if hasB (g 9 i) (nI j) = true then 5 else 0) ≤ 5 := by split <;> omega
  omega
theorem raG_6 {g : Nat → Nat → Int32} {c0 i j k : Nat} (h : ¬ g 22 i = g 22 j) (hk : k = c0) (h6 : raA g c0 i j k = 6) : nI 0 = nI (raG g c0 i j) := by subst hk; rw [raG, if_neg h, if_pos h6]
theorem raG_n {g : Nat → Nat → Int32} {c0 i j k : Nat} (h : ¬ g 22 i = g 22 j) (hk : k = c0) (h6 : raA g c0 i j k ≠ 6) : nI (raA g c0 i j k) = nI (raG g c0 i j) := by subst hk; rw [raG, if_neg h, if_neg h6]
abbrev rm_X5_areSameAndKnown : Room := { frames := 0, cells := 0, slots := 0, locals := 0 }
set_option maxRecDepth 100000 in
set_option maxHeartbeats 4000000 in
theorem c_X5_areSameAndKnown (l : Launch) (D : va_G) (cA : ClassId) (x y : Int32)  : q_CI l yX5_areSameAndKnown [Cond.code yX5_areSameAndKnown cX5_areSameAndKnown 2 (some .boolean)] rm_X5_areSameAndKnown D cA [.int x, .int y] ([] : va_W) (q_b (kn x y)) ([] : va_W) := by
  refine q_startI RX5 (by decide +kernel) rfl (Nat.le_of_ble_eq_true rfl) ?_
  intro p e s m below meth c A args H locs ls hx hb hr hml hown hT hlk hP hK hD hA hS hl
  have hl : lv_has ls 2 [(0, .int x), (1, .int y)] := hl
  refine lv_iload_n hx hb dX5_areSameAndKnown_0 rfl (lv_at hl 0 rfl) ?_
  refine lv_iload_n hx hb dX5_areSameAndKnown_1 rfl (lv_at hl 1 rfl) ?_
  refine lv_icmp_ne (tgt := 14) hx hb dX5_areSameAndKnown_2 (by decide) (fun c_2 => ?_) (fun c_2 => ?_)
  · refine lv_iconst (v := nI 0) hx hb dX5_areSameAndKnown_14 (by decide +kernel) ?_
    exact q_zret hx hb hr hlk (Or.inl rfl) (by first | exact q_bt (decide_eq_true ⟨c_2, c_7⟩) | exact q_bf (decide_eq_false (fun h => c_2 h.1)) | exact q_bf (decide_eq_false (fun h => h.2 c_7))) hP hS dX5_areSameAndKnown_15
  · refine lv_iload_n hx hb dX5_areSameAndKnown_5 rfl (lv_at hl 0 rfl) ?_
    refine lv_iconst (v := (-1)) hx hb dX5_areSameAndKnown_6 (by decide +kernel) ?_
    refine lv_icmp_eq (tgt := 14) hx hb dX5_areSameAndKnown_7 (by decide) (fun c_7 => ?_) (fun c_7 => ?_)
    · refine lv_iconst (v := nI 0) hx hb dX5_areSameAndKnown_14 (by decide +kernel) ?_
      exact q_zret hx hb hr hlk (Or.inl rfl) (by first | exact q_bt (decide_eq_true ⟨c_2, c_7⟩) | exact q_bf (decide_eq_false (fun h => c_2 h.1)) | exact q_bf (decide_eq_false (fun h => h.2 c_7))) hP hS dX5_areSameAndKnown_15
    · refine lv_iconst (v := nI 1) hx hb dX5_areSameAndKnown_10 (by decide +kernel) ?_
      refine lv_goto (tgt := 15) hx hb dX5_areSameAndKnown_11 (by decide) ?_
      exact q_zret hx hb hr hlk (Or.inr rfl) (by first | exact q_bt (decide_eq_true ⟨c_2, c_7⟩) | exact q_bf (decide_eq_false (fun h => c_2 h.1)) | exact q_bf (decide_eq_false (fun h => h.2 c_7))) hP hS dX5_areSameAndKnown_15
abbrev rm_X5_weightOf : Room := { frames := 2, cells := 0, slots := 0, locals := 43 }
set_option maxRecDepth 100000 in
set_option maxHeartbeats 4000000 in
theorem c_X5_weightOf (l : Launch) (D : va_G) (cA : ClassId) (ad : Nat → Nat) (g : Nat → Nat → Int32) (z : Nat → Nat) (i : Nat) (j : Nat) (hi : i < 16) (hj : j < 16) : q_CI l yX5_weightOf [Cond.code yX5_weightOf cX5_weightOf 4 (some .int)] rm_X5_weightOf D cA [.ref (ad 70), .int (nI i), .int (nI j)] (rlW cA ad g z) (nI (wtN g i j)) (rlW cA ad g z) := by
  refine q_startI RX5 (by decide +kernel) rfl (Nat.le_of_ble_eq_true rfl) ?_
  intro p e s m below meth c A args H locs ls hx hb hr hml hown hT hlk hP hK hD hA hS hl
  have hl : lv_has ls 4 [(0, .ref (ad 70)), (1, .int (nI i)), (2, .int (nI j))] := hl
  have zqJ111 : ∀ (H : Heap) (locs : List Loc) (ls : Array Slot), va_P D vwCl (rlW cA ad g z) H → va_D A (rlW cA ad g z) → va_S A s.heap H locs → lv_has ls 4 [(0, .ref (ad 70)), (1, .int (nI i)), (2, .int (nI j)), (3, .int (nI ((if g 0 i = g 0 j then 2 else 0) + (if kn (g 1 i) (g 1 j) = true then 3 else 0) + (if g 2 i = g 2 j then 1 else 0) + (if kn (g 3 i) (g 3 j) = true then 2 else 0) + (if hasB (g 9 i) (nI j) = true then 5 else 0))))] → W p l e rm_X5_weightOf s m args below meth c H locs 0 0 (q_GI D (nI (wtN g i j)) (rlW cA ad g z) A below args s) (F0 m 111 ls []) := by
    intro   H locs ls hP hD hS hl
    refine lv_iload_n hx hb dX5_weightOf_111 rfl (lv_at hl 3 rfl) ?_
    exact q_iret hx hb hr hlk (by rfl) hP hS dX5_weightOf_112
  have zqJ96 : ∀ (H : Heap) (locs : List Loc) (ls : Array Slot), va_P D vwCl (rlW cA ad g z) H → va_D A (rlW cA ad g z) → va_S A s.heap H locs → lv_has ls 4 [(0, .ref (ad 70)), (1, .int (nI i)), (2, .int (nI j)), (3, .int (nI ((if g 0 i = g 0 j then 2 else 0) + (if kn (g 1 i) (g 1 j) = true then 3 else 0) + (if g 2 i = g 2 j then 1 else 0) + (if kn (g 3 i) (g 3 j) = true then 2 else 0))))] → W p l e rm_X5_weightOf s m args below meth c H locs 0 0 (q_GI D (nI (wtN g i j)) (rlW cA ad g z) A below args s) (F0 m 96 ls []) := by
    intro   H locs ls hP hD hS hl
    refine lv_aload_n hx hb dX5_weightOf_96 rfl (lv_at hl 0 rfl) ?_
    refine q_get hx hb hT hown hK hP kw_X5 0 rfl rfl 7 (by decide) kf_X5_40 rfl (v := .ref (ad 61)) rfl dX5_weightOf_97 ?_
    refine lv_iload_n hx hb dX5_weightOf_100 rfl (lv_at hl 1 rfl) ?_
    refine lv_iload_n hx hb dX5_weightOf_101 rfl (lv_at hl 2 rfl) ?_
    refine q_callI (As := [.int (nI i), .int (nI j)]) (r := q_b (hasB (g 9 i) (nI j))) (wc := prW cA (ad 61) (ad 9) (ad 39) 16 (g 9)) (w1 := prW cA (ad 61) (ad 9) (ad 39) 16 (g 9)) (ws1 := rlW cA ad g z) hx hb hml hown hT hK hP hD hS hA (c_X1_hasN l D cA (ad 61) (ad 9) (ad 39) 16 (g 9) i (nI j) (by omega) (by omega)) k_X1_has kl_X5_242 (q0 := 0) rfl rfl rfl [20, 21, 22] rfl rfl rfl rfl hl rfl rfl (Nat.le_of_ble_eq_true rfl) ⟨⟨rfl, rfl⟩, Nat.le_of_ble_eq_true rfl, Nat.le_of_ble_eq_true rfl⟩ ⟨Nat.zero_le _, Nat.zero_le _⟩ dX5_weightOf_102 (fun H locs hP hD hS => ?_)
    refine lv_if_eq (tgt := 111) hx hb dX5_weightOf_105 (by decide) (fun c_105 => ?_) (fun c_105 => ?_)
    · have c_105 := q_b0e c_105
      have e9_0 : (nI ((if g 0 i = g 0 j then 2 else 0) + (if kn (g 1 i) (g 1 j) = true then 3 else 0) + (if g 2 i = g 2 j then 1 else 0) + (if kn (g 3 i) (g 3 j) = true then 2 else 0))) = (nI ((if g 0 i = g 0 j then 2 else 0) + (if kn (g 1 i) (g 1 j) = true then 3 else 0) + (if g 2 i = g 2 j then 1 else 0) + (if kn (g 3 i) (g 3 j) = true then 2 else 0) + (if hasB (g 9 i) (nI j) = true then 5 else 0))) := by first | with_reducible rfl | (simp only [c_105, if_true, if_false, Nat.add_zero, Nat.zero_add, Bool.false_eq_true, reduceIte])
      have hl9 : lv_has ls 4 [(0, .ref (ad 70)), (1, .int (nI i)), (2, .int (nI j)), (3, .int (nI ((if g 0 i = g 0 j then 2 else 0) + (if kn (g 1 i) (g 1 j) = true then 3 else 0) + (if g 2 i = g 2 j then 1 else 0) + (if kn (g 3 i) (g 3 j) = true then 2 else 0) + (if hasB (g 9 i) (nI j) = true then 5 else 0))))] := lv_cast (l := [(0, .ref (ad 70)), (1, .int (nI i)), (2, .int (nI j)), (3, .int (nI ((if g 0 i = g 0 j then 2 else 0) + (if kn (g 1 i) (g 1 j) = true then 3 else 0) + (if g 2 i = g 2 j then 1 else 0) + (if kn (g 3 i) (g 3 j) = true then 2 else 0))))]) (lv_sub hl [0, 1, 2, 3] rfl) (congrArg (fun v9 : Int32 => ([(0, .ref (ad 70)), (1, .int (nI i)), (2, .int (nI j)), (3, .int v9)] : List (Nat × Value))) e9_0)
      exact zqJ111   _ _ _ hP hD hS hl9
    · have c_105 := q_b0n c_105
      refine lv_iinc (v := nI (((if g 0 i = g 0 j then 2 else 0) + (if kn (g 1 i) (g 1 j) = true then 3 else 0) + (if g 2 i = g 2 j then 1 else 0) + (if kn (g 3 i) (g 3 j) = true then 2 else 0)) + 5)) (lv' := [(3, .int (nI (((if g 0 i = g 0 j then 2 else 0) + (if kn (g 1 i) (g 1 j) = true then 3 else 0) + (if g 2 i = g 2 j then 1 else 0) + (if kn (g 3 i) (g 3 j) = true then 2 else 0)) + 5))), (0, .ref (ad 70)), (1, .int (nI i)), (2, .int (nI j))]) hx hb dX5_weightOf_108 hl (k := 3) rfl (q_inc5 _) (by decide) rfl (fun ls hl => ?_)
      have e9_0 : (nI (((if g 0 i = g 0 j then 2 else 0) + (if kn (g 1 i) (g 1 j) = true then 3 else 0) + (if g 2 i = g 2 j then 1 else 0) + (if kn (g 3 i) (g 3 j) = true then 2 else 0)) + 5)) = (nI ((if g 0 i = g 0 j then 2 else 0) + (if kn (g 1 i) (g 1 j) = true then 3 else 0) + (if g 2 i = g 2 j then 1 else 0) + (if kn (g 3 i) (g 3 j) = true then 2 else 0) + (if hasB (g 9 i) (nI j) = true then 5 else 0))) := by first | with_reducible rfl | (simp only [c_105, if_true, if_false, Nat.add_zero, Nat.zero_add, Bool.false_eq_true, reduceIte])
      have hl9 : lv_has ls 4 [(0, .ref (ad 70)), (1, .int (nI i)), (2, .int (nI j)), (3, .int (nI ((if g 0 i = g 0 j then 2 else 0) + (if kn (g 1 i) (g 1 j) = true then 3 else 0) + (if g 2 i = g 2 j then 1 else 0) + (if kn (g 3 i) (g 3 j) = true then 2 else 0) + (if hasB (g 9 i) (nI j) = true then 5 else 0))))] := lv_cast (l := [(0, .ref (ad 70)), (1, .int (nI i)), (2, .int (nI j)), (3, .int (nI (((if g 0 i = g 0 j then 2 else 0) + (if kn (g 1 i) (g 1 j) = true then 3 else 0) + (if g 2 i = g 2 j then 1 else 0) + (if kn (g 3 i) (g 3 j) = true then 2 else 0)) + 5)))]) (lv_sub hl [1, 2, 3, 0] rfl) (congrArg (fun v9 : Int32 => ([(0, .ref (ad 70)), (1, .int (nI i)), (2, .int (nI j)), (3, .int v9)] : List (Nat × Value))) e9_0)
      exact zqJ111   _ _ _ hP hD hS hl9
  have zqJ71 : ∀ (H : Heap) (locs : List Loc) (ls : Array Slot), va_P D vwCl (rlW cA ad g z) H → va_D A (rlW cA ad g z) → va_S A s.heap H locs → lv_has ls 4 [(0, .ref (ad 70)), (1, .int (nI i)), (2, .int (nI j)), (3, .int (nI ((if g 0 i = g 0 j then 2 else 0) + (if kn (g 1 i) (g 1 j) = true then 3 else 0) + (if g 2 i = g 2 j then 1 else 0))))] → W p l e rm_X5_weightOf s m args below meth c H locs 0 0 (q_GI D (nI (wtN g i j)) (rlW cA ad g z) A below args s) (F0 m 71 ls []) := by
    intro   H locs ls hP hD hS hl
    refine lv_aload_n hx hb dX5_weightOf_71 rfl (lv_at hl 0 rfl) ?_
    refine q_get hx hb hT hown hK hP kw_X5 0 rfl rfl 3 (by decide) kf_X5_24 rfl (v := .ref (ad 3)) rfl dX5_weightOf_72 ?_
    refine lv_iload_n hx hb dX5_weightOf_75 rfl (lv_at hl 1 rfl) ?_
    refine q_callI (As := [.int (nI i)]) (r := g 3 i) (wc := rowW cA (ad 3) (ad 33) 16 (g 3)) (w1 := rowW cA (ad 3) (ad 33) 16 (g 3)) (ws1 := rlW cA ad g z) hx hb hml hown hT hK hP hD hS hA (c_X3_atN l D cA (ad 3) (ad 33) 16 (g 3) i (by omega) (by omega)) k_X3_at kl_X5_105 (q0 := 0) rfl rfl rfl [7, 8] rfl rfl rfl rfl hl rfl rfl (Nat.le_of_ble_eq_true rfl) ⟨⟨rfl, rfl⟩, Nat.le_of_ble_eq_true rfl, Nat.le_of_ble_eq_true rfl⟩ ⟨Nat.zero_le _, Nat.zero_le _⟩ dX5_weightOf_76 (fun H locs hP hD hS => ?_)
    refine lv_aload_n hx hb dX5_weightOf_79 rfl (lv_at hl 0 rfl) ?_
    refine q_get hx hb hT hown hK hP kw_X5 0 rfl rfl 3 (by decide) kf_X5_24 rfl (v := .ref (ad 3)) rfl dX5_weightOf_80 ?_
    refine lv_iload_n hx hb dX5_weightOf_83 rfl (lv_at hl 2 rfl) ?_
    refine q_callI (As := [.int (nI j)]) (r := g 3 j) (wc := rowW cA (ad 3) (ad 33) 16 (g 3)) (w1 := rowW cA (ad 3) (ad 33) 16 (g 3)) (ws1 := rlW cA ad g z) hx hb hml hown hT hK hP hD hS hA (c_X3_atN l D cA (ad 3) (ad 33) 16 (g 3) j (by omega) (by omega)) k_X3_at kl_X5_105 (q0 := 0) rfl rfl rfl [7, 8] rfl rfl rfl rfl hl rfl rfl (Nat.le_of_ble_eq_true rfl) ⟨⟨rfl, rfl⟩, Nat.le_of_ble_eq_true rfl, Nat.le_of_ble_eq_true rfl⟩ ⟨Nat.zero_le _, Nat.zero_le _⟩ dX5_weightOf_84 (fun H locs hP hD hS => ?_)
    refine q_callSI (As := [.int (g 3 i), .int (g 3 j)]) (r := q_b (kn (g 3 i) (g 3 j))) hx hb hml hown hT hK hP hD hS hA (c_X5_areSameAndKnown l D cA (g 3 i) (g 3 j)) k_X5_areSameAndKnown kl_X5_239 hl rfl rfl (Nat.le_of_ble_eq_true rfl) ⟨⟨rfl, rfl⟩, Nat.le_of_ble_eq_true rfl, Nat.le_of_ble_eq_true rfl⟩ ⟨Nat.zero_le _, Nat.zero_le _⟩ dX5_weightOf_87 (fun H locs hP hD hS => ?_)
    refine lv_if_eq (tgt := 96) hx hb dX5_weightOf_90 (by decide) (fun c_90 => ?_) (fun c_90 => ?_)
    · have c_90 := q_b0e c_90
      have e9_0 : (nI ((if g 0 i = g 0 j then 2 else 0) + (if kn (g 1 i) (g 1 j) = true then 3 else 0) + (if g 2 i = g 2 j then 1 else 0))) = (nI ((if g 0 i = g 0 j then 2 else 0) + (if kn (g 1 i) (g 1 j) = true then 3 else 0) + (if g 2 i = g 2 j then 1 else 0) + (if kn (g 3 i) (g 3 j) = true then 2 else 0))) := by first | with_reducible rfl | (simp only [c_90, if_true, if_false, Nat.add_zero, Nat.zero_add, Bool.false_eq_true, reduceIte])
      have hl9 : lv_has ls 4 [(0, .ref (ad 70)), (1, .int (nI i)), (2, .int (nI j)), (3, .int (nI ((if g 0 i = g 0 j then 2 else 0) + (if kn (g 1 i) (g 1 j) = true then 3 else 0) + (if g 2 i = g 2 j then 1 else 0) + (if kn (g 3 i) (g 3 j) = true then 2 else 0))))] := lv_cast (l := [(0, .ref (ad 70)), (1, .int (nI i)), (2, .int (nI j)), (3, .int (nI ((if g 0 i = g 0 j then 2 else 0) + (if kn (g 1 i) (g 1 j) = true then 3 else 0) + (if g 2 i = g 2 j then 1 else 0))))]) (lv_sub hl [0, 1, 2, 3] rfl) (congrArg (fun v9 : Int32 => ([(0, .ref (ad 70)), (1, .int (nI i)), (2, .int (nI j)), (3, .int v9)] : List (Nat × Value))) e9_0)
      exact zqJ96   _ _ _ hP hD hS hl9
    · have c_90 := q_b0n c_90
      refine lv_iinc (v := nI (((if g 0 i = g 0 j then 2 else 0) + (if kn (g 1 i) (g 1 j) = true then 3 else 0) + (if g 2 i = g 2 j then 1 else 0)) + 2)) (lv' := [(3, .int (nI (((if g 0 i = g 0 j then 2 else 0) + (if kn (g 1 i) (g 1 j) = true then 3 else 0) + (if g 2 i = g 2 j then 1 else 0)) + 2))), (0, .ref (ad 70)), (1, .int (nI i)), (2, .int (nI j))]) hx hb dX5_weightOf_93 hl (k := 3) rfl (q_inc2 _) (by decide) rfl (fun ls hl => ?_)
      have e9_0 : (nI (((if g 0 i = g 0 j then 2 else 0) + (if kn (g 1 i) (g 1 j) = true then 3 else 0) + (if g 2 i = g 2 j then 1 else 0)) + 2)) = (nI ((if g 0 i = g 0 j then 2 else 0) + (if kn (g 1 i) (g 1 j) = true then 3 else 0) + (if g 2 i = g 2 j then 1 else 0) + (if kn (g 3 i) (g 3 j) = true then 2 else 0))) := by first | with_reducible rfl | (simp only [c_90, if_true, if_false, Nat.add_zero, Nat.zero_add, Bool.false_eq_true, reduceIte])
      have hl9 : lv_has ls 4 [(0, .ref (ad 70)), (1, .int (nI i)), (2, .int (nI j)), (3, .int (nI ((if g 0 i = g 0 j then 2 else 0) + (if kn (g 1 i) (g 1 j) = true then 3 else 0) + (if g 2 i = g 2 j then 1 else 0) + (if kn (g 3 i) (g 3 j) = true then 2 else 0))))] := lv_cast (l := [(0, .ref (ad 70)), (1, .int (nI i)), (2, .int (nI j)), (3, .int (nI (((if g 0 i = g 0 j then 2 else 0) + (if kn (g 1 i) (g 1 j) = true then 3 else 0) + (if g 2 i = g 2 j then 1 else 0)) + 2)))]) (lv_sub hl [1, 2, 3, 0] rfl) (congrArg (fun v9 : Int32 => ([(0, .ref (ad 70)), (1, .int (nI i)), (2, .int (nI j)), (3, .int v9)] : List (Nat × Value))) e9_0)
      exact zqJ96   _ _ _ hP hD hS hl9
  have zqJ49 : ∀ (H : Heap) (locs : List Loc) (ls : Array Slot), va_P D vwCl (rlW cA ad g z) H → va_D A (rlW cA ad g z) → va_S A s.heap H locs → lv_has ls 4 [(0, .ref (ad 70)), (1, .int (nI i)), (2, .int (nI j)), (3, .int (nI ((if g 0 i = g 0 j then 2 else 0) + (if kn (g 1 i) (g 1 j) = true then 3 else 0))))] → W p l e rm_X5_weightOf s m args below meth c H locs 0 0 (q_GI D (nI (wtN g i j)) (rlW cA ad g z) A below args s) (F0 m 49 ls []) := by
    intro   H locs ls hP hD hS hl
    refine lv_aload_n hx hb dX5_weightOf_49 rfl (lv_at hl 0 rfl) ?_
    refine q_get hx hb hT hown hK hP kw_X5 0 rfl rfl 2 (by decide) kf_X5_21 rfl (v := .ref (ad 2)) rfl dX5_weightOf_50 ?_
    refine lv_iload_n hx hb dX5_weightOf_53 rfl (lv_at hl 1 rfl) ?_
    refine q_callI (As := [.int (nI i)]) (r := g 2 i) (wc := rowW cA (ad 2) (ad 32) 16 (g 2)) (w1 := rowW cA (ad 2) (ad 32) 16 (g 2)) (ws1 := rlW cA ad g z) hx hb hml hown hT hK hP hD hS hA (c_X3_atN l D cA (ad 2) (ad 32) 16 (g 2) i (by omega) (by omega)) k_X3_at kl_X5_105 (q0 := 0) rfl rfl rfl [5, 6] rfl rfl rfl rfl hl rfl rfl (Nat.le_of_ble_eq_true rfl) ⟨⟨rfl, rfl⟩, Nat.le_of_ble_eq_true rfl, Nat.le_of_ble_eq_true rfl⟩ ⟨Nat.zero_le _, Nat.zero_le _⟩ dX5_weightOf_54 (fun H locs hP hD hS => ?_)
    refine lv_aload_n hx hb dX5_weightOf_57 rfl (lv_at hl 0 rfl) ?_
    refine q_get hx hb hT hown hK hP kw_X5 0 rfl rfl 2 (by decide) kf_X5_21 rfl (v := .ref (ad 2)) rfl dX5_weightOf_58 ?_
    refine lv_iload_n hx hb dX5_weightOf_61 rfl (lv_at hl 2 rfl) ?_
    refine q_callI (As := [.int (nI j)]) (r := g 2 j) (wc := rowW cA (ad 2) (ad 32) 16 (g 2)) (w1 := rowW cA (ad 2) (ad 32) 16 (g 2)) (ws1 := rlW cA ad g z) hx hb hml hown hT hK hP hD hS hA (c_X3_atN l D cA (ad 2) (ad 32) 16 (g 2) j (by omega) (by omega)) k_X3_at kl_X5_105 (q0 := 0) rfl rfl rfl [5, 6] rfl rfl rfl rfl hl rfl rfl (Nat.le_of_ble_eq_true rfl) ⟨⟨rfl, rfl⟩, Nat.le_of_ble_eq_true rfl, Nat.le_of_ble_eq_true rfl⟩ ⟨Nat.zero_le _, Nat.zero_le _⟩ dX5_weightOf_62 (fun H locs hP hD hS => ?_)
    refine lv_icmp_ne (tgt := 71) hx hb dX5_weightOf_65 (by decide) (fun c_65 => ?_) (fun c_65 => ?_)
    · have e9_0 : (nI ((if g 0 i = g 0 j then 2 else 0) + (if kn (g 1 i) (g 1 j) = true then 3 else 0))) = (nI ((if g 0 i = g 0 j then 2 else 0) + (if kn (g 1 i) (g 1 j) = true then 3 else 0) + (if g 2 i = g 2 j then 1 else 0))) := by first | with_reducible rfl | (simp only [c_65, if_true, if_false, Nat.add_zero, Nat.zero_add, Bool.false_eq_true, reduceIte])
      have hl9 : lv_has ls 4 [(0, .ref (ad 70)), (1, .int (nI i)), (2, .int (nI j)), (3, .int (nI ((if g 0 i = g 0 j then 2 else 0) + (if kn (g 1 i) (g 1 j) = true then 3 else 0) + (if g 2 i = g 2 j then 1 else 0))))] := lv_cast (l := [(0, .ref (ad 70)), (1, .int (nI i)), (2, .int (nI j)), (3, .int (nI ((if g 0 i = g 0 j then 2 else 0) + (if kn (g 1 i) (g 1 j) = true then 3 else 0))))]) (lv_sub hl [0, 1, 2, 3] rfl) (congrArg (fun v9 : Int32 => ([(0, .ref (ad 70)), (1, .int (nI i)), (2, .int (nI j)), (3, .int v9)] : List (Nat × Value))) e9_0)
      exact zqJ71   _ _ _ hP hD hS hl9
    · refine lv_iinc (v := nI (((if g 0 i = g 0 j then 2 else 0) + (if kn (g 1 i) (g 1 j) = true then 3 else 0)) + 1)) (lv' := [(3, .int (nI (((if g 0 i = g 0 j then 2 else 0) + (if kn (g 1 i) (g 1 j) = true then 3 else 0)) + 1))), (0, .ref (ad 70)), (1, .int (nI i)), (2, .int (nI j))]) hx hb dX5_weightOf_68 hl (k := 3) rfl (q_inc1 _) (by decide) rfl (fun ls hl => ?_)
      have e9_0 : (nI (((if g 0 i = g 0 j then 2 else 0) + (if kn (g 1 i) (g 1 j) = true then 3 else 0)) + 1)) = (nI ((if g 0 i = g 0 j then 2 else 0) + (if kn (g 1 i) (g 1 j) = true then 3 else 0) + (if g 2 i = g 2 j then 1 else 0))) := by first | with_reducible rfl | (simp only [c_65, if_true, if_false, Nat.add_zero, Nat.zero_add, Bool.false_eq_true, reduceIte])
      have hl9 : lv_has ls 4 [(0, .ref (ad 70)), (1, .int (nI i)), (2, .int (nI j)), (3, .int (nI ((if g 0 i = g 0 j then 2 else 0) + (if kn (g 1 i) (g 1 j) = true then 3 else 0) + (if g 2 i = g 2 j then 1 else 0))))] := lv_cast (l := [(0, .ref (ad 70)), (1, .int (nI i)), (2, .int (nI j)), (3, .int (nI (((if g 0 i = g 0 j then 2 else 0) + (if kn (g 1 i) (g 1 j) = true then 3 else 0)) + 1)))]) (lv_sub hl [1, 2, 3, 0] rfl) (congrArg (fun v9 : Int32 => ([(0, .ref (ad 70)), (1, .int (nI i)), (2, .int (nI j)), (3, .int v9)] : List (Nat × Value))) e9_0)
      exact zqJ71   _ _ _ hP hD hS hl9
  have zqJ24 : ∀ (H : Heap) (locs : List Loc) (ls : Array Slot), va_P D vwCl (rlW cA ad g z) H → va_D A (rlW cA ad g z) → va_S A s.heap H locs → lv_has ls 4 [(0, .ref (ad 70)), (1, .int (nI i)), (2, .int (nI j)), (3, .int (nI (if g 0 i = g 0 j then 2 else 0)))] → W p l e rm_X5_weightOf s m args below meth c H locs 0 0 (q_GI D (nI (wtN g i j)) (rlW cA ad g z) A below args s) (F0 m 24 ls []) := by
    intro   H locs ls hP hD hS hl
    refine lv_aload_n hx hb dX5_weightOf_24 rfl (lv_at hl 0 rfl) ?_
    refine q_get hx hb hT hown hK hP kw_X5 0 rfl rfl 1 (by decide) kf_X5_18 rfl (v := .ref (ad 1)) rfl dX5_weightOf_25 ?_
    refine lv_iload_n hx hb dX5_weightOf_28 rfl (lv_at hl 1 rfl) ?_
    refine q_callI (As := [.int (nI i)]) (r := g 1 i) (wc := rowW cA (ad 1) (ad 31) 16 (g 1)) (w1 := rowW cA (ad 1) (ad 31) 16 (g 1)) (ws1 := rlW cA ad g z) hx hb hml hown hT hK hP hD hS hA (c_X3_atN l D cA (ad 1) (ad 31) 16 (g 1) i (by omega) (by omega)) k_X3_at kl_X5_105 (q0 := 0) rfl rfl rfl [3, 4] rfl rfl rfl rfl hl rfl rfl (Nat.le_of_ble_eq_true rfl) ⟨⟨rfl, rfl⟩, Nat.le_of_ble_eq_true rfl, Nat.le_of_ble_eq_true rfl⟩ ⟨Nat.zero_le _, Nat.zero_le _⟩ dX5_weightOf_29 (fun H locs hP hD hS => ?_)
    refine lv_aload_n hx hb dX5_weightOf_32 rfl (lv_at hl 0 rfl) ?_
    refine q_get hx hb hT hown hK hP kw_X5 0 rfl rfl 1 (by decide) kf_X5_18 rfl (v := .ref (ad 1)) rfl dX5_weightOf_33 ?_
    refine lv_iload_n hx hb dX5_weightOf_36 rfl (lv_at hl 2 rfl) ?_
    refine q_callI (As := [.int (nI j)]) (r := g 1 j) (wc := rowW cA (ad 1) (ad 31) 16 (g 1)) (w1 := rowW cA (ad 1) (ad 31) 16 (g 1)) (ws1 := rlW cA ad g z) hx hb hml hown hT hK hP hD hS hA (c_X3_atN l D cA (ad 1) (ad 31) 16 (g 1) j (by omega) (by omega)) k_X3_at kl_X5_105 (q0 := 0) rfl rfl rfl [3, 4] rfl rfl rfl rfl hl rfl rfl (Nat.le_of_ble_eq_true rfl) ⟨⟨rfl, rfl⟩, Nat.le_of_ble_eq_true rfl, Nat.le_of_ble_eq_true rfl⟩ ⟨Nat.zero_le _, Nat.zero_le _⟩ dX5_weightOf_37 (fun H locs hP hD hS => ?_)
    refine q_callSI (As := [.int (g 1 i), .int (g 1 j)]) (r := q_b (kn (g 1 i) (g 1 j))) hx hb hml hown hT hK hP hD hS hA (c_X5_areSameAndKnown l D cA (g 1 i) (g 1 j)) k_X5_areSameAndKnown kl_X5_239 hl rfl rfl (Nat.le_of_ble_eq_true rfl) ⟨⟨rfl, rfl⟩, Nat.le_of_ble_eq_true rfl, Nat.le_of_ble_eq_true rfl⟩ ⟨Nat.zero_le _, Nat.zero_le _⟩ dX5_weightOf_40 (fun H locs hP hD hS => ?_)
    refine lv_if_eq (tgt := 49) hx hb dX5_weightOf_43 (by decide) (fun c_43 => ?_) (fun c_43 => ?_)
    · have c_43 := q_b0e c_43
      have e9_0 : (nI (if g 0 i = g 0 j then 2 else 0)) = (nI ((if g 0 i = g 0 j then 2 else 0) + (if kn (g 1 i) (g 1 j) = true then 3 else 0))) := by first | with_reducible rfl | (simp only [c_43, if_true, if_false, Nat.add_zero, Nat.zero_add, Bool.false_eq_true, reduceIte])
      have hl9 : lv_has ls 4 [(0, .ref (ad 70)), (1, .int (nI i)), (2, .int (nI j)), (3, .int (nI ((if g 0 i = g 0 j then 2 else 0) + (if kn (g 1 i) (g 1 j) = true then 3 else 0))))] := lv_cast (l := [(0, .ref (ad 70)), (1, .int (nI i)), (2, .int (nI j)), (3, .int (nI (if g 0 i = g 0 j then 2 else 0)))]) (lv_sub hl [0, 1, 2, 3] rfl) (congrArg (fun v9 : Int32 => ([(0, .ref (ad 70)), (1, .int (nI i)), (2, .int (nI j)), (3, .int v9)] : List (Nat × Value))) e9_0)
      exact zqJ49   _ _ _ hP hD hS hl9
    · have c_43 := q_b0n c_43
      refine lv_iinc (v := nI ((if g 0 i = g 0 j then 2 else 0) + 3)) (lv' := [(3, .int (nI ((if g 0 i = g 0 j then 2 else 0) + 3))), (0, .ref (ad 70)), (1, .int (nI i)), (2, .int (nI j))]) hx hb dX5_weightOf_46 hl (k := 3) rfl (q_inc3 _) (by decide) rfl (fun ls hl => ?_)
      have e9_0 : (nI ((if g 0 i = g 0 j then 2 else 0) + 3)) = (nI ((if g 0 i = g 0 j then 2 else 0) + (if kn (g 1 i) (g 1 j) = true then 3 else 0))) := by first | with_reducible rfl | (simp only [c_43, if_true, if_false, Nat.add_zero, Nat.zero_add, Bool.false_eq_true, reduceIte])
      have hl9 : lv_has ls 4 [(0, .ref (ad 70)), (1, .int (nI i)), (2, .int (nI j)), (3, .int (nI ((if g 0 i = g 0 j then 2 else 0) + (if kn (g 1 i) (g 1 j) = true then 3 else 0))))] := lv_cast (l := [(0, .ref (ad 70)), (1, .int (nI i)), (2, .int (nI j)), (3, .int (nI ((if g 0 i = g 0 j then 2 else 0) + 3)))]) (lv_sub hl [1, 2, 3, 0] rfl) (congrArg (fun v9 : Int32 => ([(0, .ref (ad 70)), (1, .int (nI i)), (2, .int (nI j)), (3, .int v9)] : List (Nat × Value))) e9_0)
      exact zqJ49   _ _ _ hP hD hS hl9
  refine lv_iconst (v := nI 0) hx hb dX5_weightOf_0 (by decide +kernel) ?_
  refine lv_istore_n (lv' := [(3, .int (nI 0)), (0, .ref (ad 70)), (1, .int (nI i)), (2, .int (nI j))]) hx hb dX5_weightOf_1 rfl hl (by decide) rfl (fun ls hl => ?_)
  refine lv_aload_n hx hb dX5_weightOf_2 rfl (lv_at hl 1 rfl) ?_
  refine q_get hx hb hT hown hK hP kw_X5 0 rfl rfl 0 (by decide) kf_X5_14 rfl (v := .ref (ad 0)) rfl dX5_weightOf_3 ?_
  refine lv_iload_n hx hb dX5_weightOf_6 rfl (lv_at hl 2 rfl) ?_
  refine q_callI (As := [.int (nI i)]) (r := g 0 i) (wc := rowW cA (ad 0) (ad 30) 16 (g 0)) (w1 := rowW cA (ad 0) (ad 30) 16 (g 0)) (ws1 := rlW cA ad g z) hx hb hml hown hT hK hP hD hS hA (c_X3_atN l D cA (ad 0) (ad 30) 16 (g 0) i (by omega) (by omega)) k_X3_at kl_X5_105 (q0 := 0) rfl rfl rfl [1, 2] rfl rfl rfl rfl hl rfl rfl (Nat.le_of_ble_eq_true rfl) ⟨⟨rfl, rfl⟩, Nat.le_of_ble_eq_true rfl, Nat.le_of_ble_eq_true rfl⟩ ⟨Nat.zero_le _, Nat.zero_le _⟩ dX5_weightOf_7 (fun H locs hP hD hS => ?_)
  refine lv_aload_n hx hb dX5_weightOf_10 rfl (lv_at hl 1 rfl) ?_
  refine q_get hx hb hT hown hK hP kw_X5 0 rfl rfl 0 (by decide) kf_X5_14 rfl (v := .ref (ad 0)) rfl dX5_weightOf_11 ?_
  refine lv_iload_n hx hb dX5_weightOf_14 rfl (lv_at hl 3 rfl) ?_
  refine q_callI (As := [.int (nI j)]) (r := g 0 j) (wc := rowW cA (ad 0) (ad 30) 16 (g 0)) (w1 := rowW cA (ad 0) (ad 30) 16 (g 0)) (ws1 := rlW cA ad g z) hx hb hml hown hT hK hP hD hS hA (c_X3_atN l D cA (ad 0) (ad 30) 16 (g 0) j (by omega) (by omega)) k_X3_at kl_X5_105 (q0 := 0) rfl rfl rfl [1, 2] rfl rfl rfl rfl hl rfl rfl (Nat.le_of_ble_eq_true rfl) ⟨⟨rfl, rfl⟩, Nat.le_of_ble_eq_true rfl, Nat.le_of_ble_eq_true rfl⟩ ⟨Nat.zero_le _, Nat.zero_le _⟩ dX5_weightOf_15 (fun H locs hP hD hS => ?_)
  refine lv_icmp_ne (tgt := 24) hx hb dX5_weightOf_18 (by decide) (fun c_18 => ?_) (fun c_18 => ?_)
  · have e9_0 : (nI 0) = (nI (if g 0 i = g 0 j then 2 else 0)) := by first | with_reducible rfl | (simp only [c_18, if_true, if_false, Nat.add_zero, Nat.zero_add, Bool.false_eq_true, reduceIte])
    have hl9 : lv_has ls 4 [(0, .ref (ad 70)), (1, .int (nI i)), (2, .int (nI j)), (3, .int (nI (if g 0 i = g 0 j then 2 else 0)))] := lv_cast (l := [(0, .ref (ad 70)), (1, .int (nI i)), (2, .int (nI j)), (3, .int (nI 0))]) (lv_sub hl [1, 2, 3, 0] rfl) (congrArg (fun v9 : Int32 => ([(0, .ref (ad 70)), (1, .int (nI i)), (2, .int (nI j)), (3, .int v9)] : List (Nat × Value))) e9_0)
    exact zqJ24   _ _ _ hP hD hS hl9
  · refine lv_iinc (v := nI 2) (lv' := [(3, .int (nI 2)), (0, .ref (ad 70)), (1, .int (nI i)), (2, .int (nI j))]) hx hb dX5_weightOf_21 hl (k := 0) rfl (q_inc2 _) (by decide) rfl (fun ls hl => ?_)
    have e9_0 : (nI 2) = (nI (if g 0 i = g 0 j then 2 else 0)) := by first | with_reducible rfl | (simp only [c_18, if_true, if_false, Nat.add_zero, Nat.zero_add, Bool.false_eq_true, reduceIte])
    have hl9 : lv_has ls 4 [(0, .ref (ad 70)), (1, .int (nI i)), (2, .int (nI j)), (3, .int (nI (if g 0 i = g 0 j then 2 else 0)))] := lv_cast (l := [(0, .ref (ad 70)), (1, .int (nI i)), (2, .int (nI j)), (3, .int (nI 2))]) (lv_sub hl [1, 2, 3, 0] rfl) (congrArg (fun v9 : Int32 => ([(0, .ref (ad 70)), (1, .int (nI i)), (2, .int (nI j)), (3, .int v9)] : List (Nat × Value))) e9_0)
    exact zqJ24   _ _ _ hP hD hS hl9
abbrev rm_X5_haveOtherFamilies : Room := { frames := 1, cells := 0, slots := 0, locals := 21 }
set_option maxRecDepth 100000 in
set_option maxHeartbeats 4000000 in
theorem c_X5_haveOtherFamilies (l : Launch) (D : va_G) (cA : ClassId) (ad : Nat → Nat) (g : Nat → Nat → Int32) (z : Nat → Nat) (i : Nat) (j : Nat) (hi : i < 16) (hj : j < 16) : q_CI l yX5_haveOtherFamilies [Cond.code yX5_haveOtherFamilies cX5_haveOtherFamilies 5 (some .boolean)] rm_X5_haveOtherFamilies D cA [.ref (ad 70), .int (nI i), .int (nI j)] (rlW cA ad g z) (q_b (hof ((g 1) i) ((g 1) j))) (rlW cA ad g z) := by
  refine q_startI RX5 (by decide +kernel) rfl (Nat.le_of_ble_eq_true rfl) ?_
  intro p e s m below meth c A args H locs ls hx hb hr hml hown hT hlk hP hK hD hA hS hl
  have hl : lv_has ls 5 [(0, .ref (ad 70)), (1, .int (nI i)), (2, .int (nI j))] := hl
  refine lv_aload_n hx hb dX5_haveOtherFamilies_0 rfl (lv_at hl 0 rfl) ?_
  refine q_get hx hb hT hown hK hP kw_X5 0 rfl rfl 1 (by decide) kf_X5_18 rfl (v := .ref (ad 1)) rfl dX5_haveOtherFamilies_1 ?_
  refine lv_iload_n hx hb dX5_haveOtherFamilies_4 rfl (lv_at hl 1 rfl) ?_
  refine q_callI (As := [.int (nI i)]) (r := g 1 i) (wc := rowW cA (ad 1) (ad 31) 16 (g 1)) (w1 := rowW cA (ad 1) (ad 31) 16 (g 1)) (ws1 := rlW cA ad g z) hx hb hml hown hT hK hP hD hS hA (c_X3_atN l D cA (ad 1) (ad 31) 16 (g 1) i (by omega) (by omega)) k_X3_at kl_X5_105 (q0 := 0) rfl rfl rfl [3, 4] rfl rfl rfl rfl hl rfl rfl (Nat.le_of_ble_eq_true rfl) ⟨⟨rfl, rfl⟩, Nat.le_of_ble_eq_true rfl, Nat.le_of_ble_eq_true rfl⟩ ⟨Nat.zero_le _, Nat.zero_le _⟩ dX5_haveOtherFamilies_5 (fun H locs hP hD hS => ?_)
  refine lv_istore_n (lv' := [(3, .int (g 1 i)), (0, .ref (ad 70)), (1, .int (nI i)), (2, .int (nI j))]) hx hb dX5_haveOtherFamilies_8 rfl hl (by decide) rfl (fun ls hl => ?_)
  refine lv_aload_n hx hb dX5_haveOtherFamilies_9 rfl (lv_at hl 1 rfl) ?_
  refine q_get hx hb hT hown hK hP kw_X5 0 rfl rfl 1 (by decide) kf_X5_18 rfl (v := .ref (ad 1)) rfl dX5_haveOtherFamilies_10 ?_
  refine lv_iload_n hx hb dX5_haveOtherFamilies_13 rfl (lv_at hl 3 rfl) ?_
  refine q_callI (As := [.int (nI j)]) (r := g 1 j) (wc := rowW cA (ad 1) (ad 31) 16 (g 1)) (w1 := rowW cA (ad 1) (ad 31) 16 (g 1)) (ws1 := rlW cA ad g z) hx hb hml hown hT hK hP hD hS hA (c_X3_atN l D cA (ad 1) (ad 31) 16 (g 1) j (by omega) (by omega)) k_X3_at kl_X5_105 (q0 := 0) rfl rfl rfl [3, 4] rfl rfl rfl rfl hl rfl rfl (Nat.le_of_ble_eq_true rfl) ⟨⟨rfl, rfl⟩, Nat.le_of_ble_eq_true rfl, Nat.le_of_ble_eq_true rfl⟩ ⟨Nat.zero_le _, Nat.zero_le _⟩ dX5_haveOtherFamilies_14 (fun H locs hP hD hS => ?_)
  refine lv_istore (lv' := [(4, .int (g 1 j)), (3, .int (g 1 i)), (0, .ref (ad 70)), (1, .int (nI i)), (2, .int (nI j))]) hx hb dX5_haveOtherFamilies_17 hl (by decide) rfl (fun ls hl => ?_)
  refine lv_iload_n hx hb dX5_haveOtherFamilies_19 rfl (lv_at hl 1 rfl) ?_
  refine lv_iconst (v := (-1)) hx hb dX5_haveOtherFamilies_20 (by decide +kernel) ?_
  refine lv_icmp_eq (tgt := 40) hx hb dX5_haveOtherFamilies_21 (by decide) (fun c_21 => ?_) (fun c_21 => ?_)
  · refine lv_iconst (v := nI 0) hx hb dX5_haveOtherFamilies_40 (by decide +kernel) ?_
    exact q_zret hx hb hr hlk (Or.inl rfl) (by first | exact q_bt (decide_eq_true ⟨c_21, c_27, c_33⟩) | exact q_bf (decide_eq_false (fun h => h.1 c_21)) | exact q_bf (decide_eq_false (fun h => h.2.1 c_27)) | exact q_bf (decide_eq_false (fun h => h.2.2 c_33))) hP hS dX5_haveOtherFamilies_41
  · refine lv_iload hx hb dX5_haveOtherFamilies_24 (lv_at hl 0 rfl) ?_
    refine lv_iconst (v := (-1)) hx hb dX5_haveOtherFamilies_26 (by decide +kernel) ?_
    refine lv_icmp_eq (tgt := 40) hx hb dX5_haveOtherFamilies_27 (by decide) (fun c_27 => ?_) (fun c_27 => ?_)
    · refine lv_iconst (v := nI 0) hx hb dX5_haveOtherFamilies_40 (by decide +kernel) ?_
      exact q_zret hx hb hr hlk (Or.inl rfl) (by first | exact q_bt (decide_eq_true ⟨c_21, c_27, c_33⟩) | exact q_bf (decide_eq_false (fun h => h.1 c_21)) | exact q_bf (decide_eq_false (fun h => h.2.1 c_27)) | exact q_bf (decide_eq_false (fun h => h.2.2 c_33))) hP hS dX5_haveOtherFamilies_41
    · refine lv_iload_n hx hb dX5_haveOtherFamilies_30 rfl (lv_at hl 1 rfl) ?_
      refine lv_iload hx hb dX5_haveOtherFamilies_31 (lv_at hl 0 rfl) ?_
      refine lv_icmp_eq (tgt := 40) hx hb dX5_haveOtherFamilies_33 (by decide) (fun c_33 => ?_) (fun c_33 => ?_)
      · refine lv_iconst (v := nI 0) hx hb dX5_haveOtherFamilies_40 (by decide +kernel) ?_
        exact q_zret hx hb hr hlk (Or.inl rfl) (by first | exact q_bt (decide_eq_true ⟨c_21, c_27, c_33⟩) | exact q_bf (decide_eq_false (fun h => h.1 c_21)) | exact q_bf (decide_eq_false (fun h => h.2.1 c_27)) | exact q_bf (decide_eq_false (fun h => h.2.2 c_33))) hP hS dX5_haveOtherFamilies_41
      · refine lv_iconst (v := nI 1) hx hb dX5_haveOtherFamilies_36 (by decide +kernel) ?_
        refine lv_goto (tgt := 41) hx hb dX5_haveOtherFamilies_37 (by decide) ?_
        exact q_zret hx hb hr hlk (Or.inr rfl) (by first | exact q_bt (decide_eq_true ⟨c_21, c_27, c_33⟩) | exact q_bf (decide_eq_false (fun h => h.1 c_21)) | exact q_bf (decide_eq_false (fun h => h.2.1 c_27)) | exact q_bf (decide_eq_false (fun h => h.2.2 c_33))) hP hS dX5_haveOtherFamilies_41
abbrev rm_X5_areBarredAtOnce : Room := { frames := 2, cells := 0, slots := 0, locals := 43 }
set_option maxRecDepth 100000 in
set_option maxHeartbeats 4000000 in
theorem c_X5_areBarredAtOnce (l : Launch) (D : va_G) (cA : ClassId) (ad : Nat → Nat) (g : Nat → Nat → Int32) (z : Nat → Nat) (i : Nat) (j : Nat) (hi : i < 16) (hj : j < 16) : q_CI l yX5_areBarredAtOnce [Cond.code yX5_areBarredAtOnce cX5_areBarredAtOnce 5 (some .boolean)] rm_X5_areBarredAtOnce D cA [.ref (ad 70), .int (nI i), .int (nI j)] (rlW cA ad g z) (q_b (abo g i j)) (rlW cA ad g z) := by
  refine q_startI RX5 (by decide +kernel) rfl (Nat.le_of_ble_eq_true rfl) ?_
  intro p e s m below meth c A args H locs ls hx hb hr hml hown hT hlk hP hK hD hA hS hl
  have hl : lv_has ls 5 [(0, .ref (ad 70)), (1, .int (nI i)), (2, .int (nI j))] := hl
  refine lv_aload_n hx hb dX5_areBarredAtOnce_0 rfl (lv_at hl 0 rfl) ?_
  refine q_get hx hb hT hown hK hP kw_X5 0 rfl rfl 3 (by decide) kf_X5_24 rfl (v := .ref (ad 3)) rfl dX5_areBarredAtOnce_1 ?_
  refine lv_iload_n hx hb dX5_areBarredAtOnce_4 rfl (lv_at hl 1 rfl) ?_
  refine q_callI (As := [.int (nI i)]) (r := g 3 i) (wc := rowW cA (ad 3) (ad 33) 16 (g 3)) (w1 := rowW cA (ad 3) (ad 33) 16 (g 3)) (ws1 := rlW cA ad g z) hx hb hml hown hT hK hP hD hS hA (c_X3_atN l D cA (ad 3) (ad 33) 16 (g 3) i (by omega) (by omega)) k_X3_at kl_X5_105 (q0 := 0) rfl rfl rfl [7, 8] rfl rfl rfl rfl hl rfl rfl (Nat.le_of_ble_eq_true rfl) ⟨⟨rfl, rfl⟩, Nat.le_of_ble_eq_true rfl, Nat.le_of_ble_eq_true rfl⟩ ⟨Nat.zero_le _, Nat.zero_le _⟩ dX5_areBarredAtOnce_5 (fun H locs hP hD hS => ?_)
  refine lv_istore_n (lv' := [(3, .int (g 3 i)), (0, .ref (ad 70)), (1, .int (nI i)), (2, .int (nI j))]) hx hb dX5_areBarredAtOnce_8 rfl hl (by decide) rfl (fun ls hl => ?_)
  refine lv_aload_n hx hb dX5_areBarredAtOnce_9 rfl (lv_at hl 1 rfl) ?_
  refine q_get hx hb hT hown hK hP kw_X5 0 rfl rfl 3 (by decide) kf_X5_24 rfl (v := .ref (ad 3)) rfl dX5_areBarredAtOnce_10 ?_
  refine lv_iload_n hx hb dX5_areBarredAtOnce_13 rfl (lv_at hl 3 rfl) ?_
  refine q_callI (As := [.int (nI j)]) (r := g 3 j) (wc := rowW cA (ad 3) (ad 33) 16 (g 3)) (w1 := rowW cA (ad 3) (ad 33) 16 (g 3)) (ws1 := rlW cA ad g z) hx hb hml hown hT hK hP hD hS hA (c_X3_atN l D cA (ad 3) (ad 33) 16 (g 3) j (by omega) (by omega)) k_X3_at kl_X5_105 (q0 := 0) rfl rfl rfl [7, 8] rfl rfl rfl rfl hl rfl rfl (Nat.le_of_ble_eq_true rfl) ⟨⟨rfl, rfl⟩, Nat.le_of_ble_eq_true rfl, Nat.le_of_ble_eq_true rfl⟩ ⟨Nat.zero_le _, Nat.zero_le _⟩ dX5_areBarredAtOnce_14 (fun H locs hP hD hS => ?_)
  refine lv_istore (lv' := [(4, .int (g 3 j)), (3, .int (g 3 i)), (0, .ref (ad 70)), (1, .int (nI i)), (2, .int (nI j))]) hx hb dX5_areBarredAtOnce_17 hl (by decide) rfl (fun ls hl => ?_)
  refine lv_iload_n hx hb dX5_areBarredAtOnce_19 rfl (lv_at hl 1 rfl) ?_
  refine lv_iconst (v := (-1)) hx hb dX5_areBarredAtOnce_20 (by decide +kernel) ?_
  refine lv_icmp_eq (tgt := 88) hx hb dX5_areBarredAtOnce_21 (by decide) (fun c_21 => ?_) (fun c_21 => ?_)
  · refine lv_iconst (v := nI 0) hx hb dX5_areBarredAtOnce_88 (by decide +kernel) ?_
    exact q_zret hx hb hr hlk (Or.inl rfl) (by first | exact q_bt (decide_eq_true ⟨c_21, c_27, c_40, of_decide_eq_true c_51, of_decide_eq_true c_62, c_81⟩) | exact q_bf (decide_eq_false (fun h => h.1 c_21)) | exact q_bf (decide_eq_false (fun h => h.2.1 c_27)) | exact q_bf (decide_eq_false (fun h => Bool.false_ne_true (c_40.symm.trans h.2.2.1))) | exact q_bf (decide_eq_false (fun h => of_decide_eq_false c_51 h.2.2.2.1)) | exact q_bf (decide_eq_false (fun h => of_decide_eq_false c_62 h.2.2.2.2.1)) | exact q_bf (decide_eq_false (fun h => c_81 h.2.2.2.2.2))) hP hS dX5_areBarredAtOnce_89
  · refine lv_iload hx hb dX5_areBarredAtOnce_24 (lv_at hl 0 rfl) ?_
    refine lv_iconst (v := (-1)) hx hb dX5_areBarredAtOnce_26 (by decide +kernel) ?_
    refine lv_icmp_eq (tgt := 88) hx hb dX5_areBarredAtOnce_27 (by decide) (fun c_27 => ?_) (fun c_27 => ?_)
    · refine lv_iconst (v := nI 0) hx hb dX5_areBarredAtOnce_88 (by decide +kernel) ?_
      exact q_zret hx hb hr hlk (Or.inl rfl) (by first | exact q_bt (decide_eq_true ⟨c_21, c_27, c_40, of_decide_eq_true c_51, of_decide_eq_true c_62, c_81⟩) | exact q_bf (decide_eq_false (fun h => h.1 c_21)) | exact q_bf (decide_eq_false (fun h => h.2.1 c_27)) | exact q_bf (decide_eq_false (fun h => Bool.false_ne_true (c_40.symm.trans h.2.2.1))) | exact q_bf (decide_eq_false (fun h => of_decide_eq_false c_51 h.2.2.2.1)) | exact q_bf (decide_eq_false (fun h => of_decide_eq_false c_62 h.2.2.2.2.1)) | exact q_bf (decide_eq_false (fun h => c_81 h.2.2.2.2.2))) hP hS dX5_areBarredAtOnce_89
    · refine lv_aload_n hx hb dX5_areBarredAtOnce_30 rfl (lv_at hl 2 rfl) ?_
      refine q_get hx hb hT hown hK hP kw_X5 0 rfl rfl 6 (by decide) kf_X5_36 rfl (v := .ref (ad 60)) rfl dX5_areBarredAtOnce_31 ?_
      refine lv_iload_n hx hb dX5_areBarredAtOnce_34 rfl (lv_at hl 1 rfl) ?_
      refine lv_iload hx hb dX5_areBarredAtOnce_35 (lv_at hl 0 rfl) ?_
      refine q_callI (As := [.int (g 3 i), .int (g 3 j)]) (r := q_b (hasB (rAt 8 (g 8) (g 3 i)) (g 3 j))) (wc := prW cA (ad 60) (ad 8) (ad 38) 8 (g 8)) (w1 := prW cA (ad 60) (ad 8) (ad 38) 8 (g 8)) (ws1 := rlW cA ad g z) hx hb hml hown hT hK hP hD hS hA (c_X1_has l D cA (ad 60) (ad 8) (ad 38) 8 (g 8) (g 3 i) (g 3 j) (by omega)) k_X1_has kl_X5_242 (q0 := 0) rfl rfl rfl [17, 18, 19] rfl rfl rfl rfl hl rfl rfl (Nat.le_of_ble_eq_true rfl) ⟨⟨rfl, rfl⟩, Nat.le_of_ble_eq_true rfl, Nat.le_of_ble_eq_true rfl⟩ ⟨Nat.zero_le _, Nat.zero_le _⟩ dX5_areBarredAtOnce_37 (fun H locs hP hD hS => ?_)
      refine lv_if_eq (tgt := 88) hx hb dX5_areBarredAtOnce_40 (by decide) (fun c_40 => ?_) (fun c_40 => ?_)
      · have c_40 := q_b0e c_40
        refine lv_iconst (v := nI 0) hx hb dX5_areBarredAtOnce_88 (by decide +kernel) ?_
        exact q_zret hx hb hr hlk (Or.inl rfl) (by first | exact q_bt (decide_eq_true ⟨c_21, c_27, c_40, of_decide_eq_true c_51, of_decide_eq_true c_62, c_81⟩) | exact q_bf (decide_eq_false (fun h => h.1 c_21)) | exact q_bf (decide_eq_false (fun h => h.2.1 c_27)) | exact q_bf (decide_eq_false (fun h => Bool.false_ne_true (c_40.symm.trans h.2.2.1))) | exact q_bf (decide_eq_false (fun h => of_decide_eq_false c_51 h.2.2.2.1)) | exact q_bf (decide_eq_false (fun h => of_decide_eq_false c_62 h.2.2.2.2.1)) | exact q_bf (decide_eq_false (fun h => c_81 h.2.2.2.2.2))) hP hS dX5_areBarredAtOnce_89
      · have c_40 := q_b0n c_40
        refine lv_aload_n hx hb dX5_areBarredAtOnce_43 rfl (lv_at hl 2 rfl) ?_
        refine q_get hx hb hT hown hK hP kw_X5 0 rfl rfl 10 (by decide) kf_X5_52 rfl (v := .ref (ad 71)) rfl dX5_areBarredAtOnce_44 ?_
        refine lv_iload_n hx hb dX5_areBarredAtOnce_47 rfl (lv_at hl 3 rfl) ?_
        refine q_callIS (As := [.int (nI i)]) (r := q_b (decide ((g 17) i = (g 18) i))) (wc := yrW cA ad g z) (w1 := yrW cA ad g z) (ws1 := rlW cA ad g z) hx hb hml hown hT hK hP hD hS hA (c_X4_isCertain l D cA ad g z i (show i < 16 by omega)) k_X4_isCertain kl_X5_245 (q0 := 0) rfl rfl rfl (rl_a cA ad g z) (psW cA ad g z ++ gpW cA ad g z) rfl (rl_y rfl rfl rfl) ((yrW_adr _ _ _ _).trans (yrW_adr _ _ _ _).symm) hl rfl rfl (Nat.le_of_ble_eq_true rfl) ⟨⟨rfl, rfl⟩, Nat.le_of_ble_eq_true rfl, Nat.le_of_ble_eq_true rfl⟩ ⟨Nat.zero_le _, Nat.zero_le _⟩ dX5_areBarredAtOnce_48 (fun H locs hP hD hS => ?_)
        refine lv_if_eq (tgt := 88) hx hb dX5_areBarredAtOnce_51 (by decide) (fun c_51 => ?_) (fun c_51 => ?_)
        · have c_51 := q_b0e c_51
          refine lv_iconst (v := nI 0) hx hb dX5_areBarredAtOnce_88 (by decide +kernel) ?_
          exact q_zret hx hb hr hlk (Or.inl rfl) (by first | exact q_bt (decide_eq_true ⟨c_21, c_27, c_40, of_decide_eq_true c_51, of_decide_eq_true c_62, c_81⟩) | exact q_bf (decide_eq_false (fun h => h.1 c_21)) | exact q_bf (decide_eq_false (fun h => h.2.1 c_27)) | exact q_bf (decide_eq_false (fun h => Bool.false_ne_true (c_40.symm.trans h.2.2.1))) | exact q_bf (decide_eq_false (fun h => of_decide_eq_false c_51 h.2.2.2.1)) | exact q_bf (decide_eq_false (fun h => of_decide_eq_false c_62 h.2.2.2.2.1)) | exact q_bf (decide_eq_false (fun h => c_81 h.2.2.2.2.2))) hP hS dX5_areBarredAtOnce_89
        · have c_51 := q_b0n c_51
          refine lv_aload_n hx hb dX5_areBarredAtOnce_54 rfl (lv_at hl 2 rfl) ?_
          refine q_get hx hb hT hown hK hP kw_X5 0 rfl rfl 10 (by decide) kf_X5_52 rfl (v := .ref (ad 71)) rfl dX5_areBarredAtOnce_55 ?_
          refine lv_iload_n hx hb dX5_areBarredAtOnce_58 rfl (lv_at hl 4 rfl) ?_
          refine q_callIS (As := [.int (nI j)]) (r := q_b (decide ((g 17) j = (g 18) j))) (wc := yrW cA ad g z) (w1 := yrW cA ad g z) (ws1 := rlW cA ad g z) hx hb hml hown hT hK hP hD hS hA (c_X4_isCertain l D cA ad g z j (show j < 16 by omega)) k_X4_isCertain kl_X5_245 (q0 := 0) rfl rfl rfl (rl_a cA ad g z) (psW cA ad g z ++ gpW cA ad g z) rfl (rl_y rfl rfl rfl) ((yrW_adr _ _ _ _).trans (yrW_adr _ _ _ _).symm) hl rfl rfl (Nat.le_of_ble_eq_true rfl) ⟨⟨rfl, rfl⟩, Nat.le_of_ble_eq_true rfl, Nat.le_of_ble_eq_true rfl⟩ ⟨Nat.zero_le _, Nat.zero_le _⟩ dX5_areBarredAtOnce_59 (fun H locs hP hD hS => ?_)
          refine lv_if_eq (tgt := 88) hx hb dX5_areBarredAtOnce_62 (by decide) (fun c_62 => ?_) (fun c_62 => ?_)
          · have c_62 := q_b0e c_62
            refine lv_iconst (v := nI 0) hx hb dX5_areBarredAtOnce_88 (by decide +kernel) ?_
            exact q_zret hx hb hr hlk (Or.inl rfl) (by first | exact q_bt (decide_eq_true ⟨c_21, c_27, c_40, of_decide_eq_true c_51, of_decide_eq_true c_62, c_81⟩) | exact q_bf (decide_eq_false (fun h => h.1 c_21)) | exact q_bf (decide_eq_false (fun h => h.2.1 c_27)) | exact q_bf (decide_eq_false (fun h => Bool.false_ne_true (c_40.symm.trans h.2.2.1))) | exact q_bf (decide_eq_false (fun h => of_decide_eq_false c_51 h.2.2.2.1)) | exact q_bf (decide_eq_false (fun h => of_decide_eq_false c_62 h.2.2.2.2.1)) | exact q_bf (decide_eq_false (fun h => c_81 h.2.2.2.2.2))) hP hS dX5_areBarredAtOnce_89
          · have c_62 := q_b0n c_62
            refine lv_aload_n hx hb dX5_areBarredAtOnce_65 rfl (lv_at hl 2 rfl) ?_
            refine q_get hx hb hT hown hK hP kw_X5 0 rfl rfl 10 (by decide) kf_X5_52 rfl (v := .ref (ad 71)) rfl dX5_areBarredAtOnce_66 ?_
            refine lv_iload_n hx hb dX5_areBarredAtOnce_69 rfl (lv_at hl 3 rfl) ?_
            refine q_callIS (As := [.int (nI i)]) (r := (g 17) i) (wc := yrW cA ad g z) (w1 := yrW cA ad g z) (ws1 := rlW cA ad g z) hx hb hml hown hT hK hP hD hS hA (c_X4_firstOf l D cA ad g z i (show i < 16 by omega)) k_X4_firstOf kl_X5_146 (q0 := 0) rfl rfl rfl (rl_a cA ad g z) (psW cA ad g z ++ gpW cA ad g z) rfl (rl_y rfl rfl rfl) ((yrW_adr _ _ _ _).trans (yrW_adr _ _ _ _).symm) hl rfl rfl (Nat.le_of_ble_eq_true rfl) ⟨⟨rfl, rfl⟩, Nat.le_of_ble_eq_true rfl, Nat.le_of_ble_eq_true rfl⟩ ⟨Nat.zero_le _, Nat.zero_le _⟩ dX5_areBarredAtOnce_70 (fun H locs hP hD hS => ?_)
            refine lv_aload_n hx hb dX5_areBarredAtOnce_73 rfl (lv_at hl 2 rfl) ?_
            refine q_get hx hb hT hown hK hP kw_X5 0 rfl rfl 10 (by decide) kf_X5_52 rfl (v := .ref (ad 71)) rfl dX5_areBarredAtOnce_74 ?_
            refine lv_iload_n hx hb dX5_areBarredAtOnce_77 rfl (lv_at hl 4 rfl) ?_
            refine q_callIS (As := [.int (nI j)]) (r := (g 17) j) (wc := yrW cA ad g z) (w1 := yrW cA ad g z) (ws1 := rlW cA ad g z) hx hb hml hown hT hK hP hD hS hA (c_X4_firstOf l D cA ad g z j (show j < 16 by omega)) k_X4_firstOf kl_X5_146 (q0 := 0) rfl rfl rfl (rl_a cA ad g z) (psW cA ad g z ++ gpW cA ad g z) rfl (rl_y rfl rfl rfl) ((yrW_adr _ _ _ _).trans (yrW_adr _ _ _ _).symm) hl rfl rfl (Nat.le_of_ble_eq_true rfl) ⟨⟨rfl, rfl⟩, Nat.le_of_ble_eq_true rfl, Nat.le_of_ble_eq_true rfl⟩ ⟨Nat.zero_le _, Nat.zero_le _⟩ dX5_areBarredAtOnce_78 (fun H locs hP hD hS => ?_)
            refine lv_icmp_ne (tgt := 88) hx hb dX5_areBarredAtOnce_81 (by decide) (fun c_81 => ?_) (fun c_81 => ?_)
            · refine lv_iconst (v := nI 0) hx hb dX5_areBarredAtOnce_88 (by decide +kernel) ?_
              exact q_zret hx hb hr hlk (Or.inl rfl) (by first | exact q_bt (decide_eq_true ⟨c_21, c_27, c_40, of_decide_eq_true c_51, of_decide_eq_true c_62, c_81⟩) | exact q_bf (decide_eq_false (fun h => h.1 c_21)) | exact q_bf (decide_eq_false (fun h => h.2.1 c_27)) | exact q_bf (decide_eq_false (fun h => Bool.false_ne_true (c_40.symm.trans h.2.2.1))) | exact q_bf (decide_eq_false (fun h => of_decide_eq_false c_51 h.2.2.2.1)) | exact q_bf (decide_eq_false (fun h => of_decide_eq_false c_62 h.2.2.2.2.1)) | exact q_bf (decide_eq_false (fun h => c_81 h.2.2.2.2.2))) hP hS dX5_areBarredAtOnce_89
            · refine lv_iconst (v := nI 1) hx hb dX5_areBarredAtOnce_84 (by decide +kernel) ?_
              refine lv_goto (tgt := 89) hx hb dX5_areBarredAtOnce_85 (by decide) ?_
              exact q_zret hx hb hr hlk (Or.inr rfl) (by first | exact q_bt (decide_eq_true ⟨c_21, c_27, c_40, of_decide_eq_true c_51, of_decide_eq_true c_62, c_81⟩) | exact q_bf (decide_eq_false (fun h => h.1 c_21)) | exact q_bf (decide_eq_false (fun h => h.2.1 c_27)) | exact q_bf (decide_eq_false (fun h => Bool.false_ne_true (c_40.symm.trans h.2.2.1))) | exact q_bf (decide_eq_false (fun h => of_decide_eq_false c_51 h.2.2.2.1)) | exact q_bf (decide_eq_false (fun h => of_decide_eq_false c_62 h.2.2.2.2.1)) | exact q_bf (decide_eq_false (fun h => c_81 h.2.2.2.2.2))) hP hS dX5_areBarredAtOnce_89
abbrev rm_X5_areTogetherForRival : Room := { frames := 1, cells := 0, slots := 0, locals := 21 }
set_option maxRecDepth 100000 in
set_option maxHeartbeats 4000000 in
theorem c_X5_areTogetherForRival (l : Launch) (D : va_G) (cA : ClassId) (ad : Nat → Nat) (g : Nat → Nat → Int32) (z : Nat → Nat) (i : Nat) (j : Nat) (hi : i < 16) (hj : j < 16) : q_CI l yX5_areTogetherForRival [Cond.code yX5_areTogetherForRival cX5_areTogetherForRival 3 (some .boolean)] rm_X5_areTogetherForRival D cA [.ref (ad 70), .int (nI i), .int (nI j)] (rlW cA ad g z) (q_b (kn ((g 4) i) ((g 4) j))) (rlW cA ad g z) := by
  refine q_startI RX5 (by decide +kernel) rfl (Nat.le_of_ble_eq_true rfl) ?_
  intro p e s m below meth c A args H locs ls hx hb hr hml hown hT hlk hP hK hD hA hS hl
  have hl : lv_has ls 3 [(0, .ref (ad 70)), (1, .int (nI i)), (2, .int (nI j))] := hl
  refine lv_aload_n hx hb dX5_areTogetherForRival_0 rfl (lv_at hl 0 rfl) ?_
  refine q_get hx hb hT hown hK hP kw_X5 0 rfl rfl 4 (by decide) kf_X5_27 rfl (v := .ref (ad 4)) rfl dX5_areTogetherForRival_1 ?_
  refine lv_iload_n hx hb dX5_areTogetherForRival_4 rfl (lv_at hl 1 rfl) ?_
  refine q_callI (As := [.int (nI i)]) (r := g 4 i) (wc := rowW cA (ad 4) (ad 34) 16 (g 4)) (w1 := rowW cA (ad 4) (ad 34) 16 (g 4)) (ws1 := rlW cA ad g z) hx hb hml hown hT hK hP hD hS hA (c_X3_atN l D cA (ad 4) (ad 34) 16 (g 4) i (by omega) (by omega)) k_X3_at kl_X5_105 (q0 := 0) rfl rfl rfl [9, 10] rfl rfl rfl rfl hl rfl rfl (Nat.le_of_ble_eq_true rfl) ⟨⟨rfl, rfl⟩, Nat.le_of_ble_eq_true rfl, Nat.le_of_ble_eq_true rfl⟩ ⟨Nat.zero_le _, Nat.zero_le _⟩ dX5_areTogetherForRival_5 (fun H locs hP hD hS => ?_)
  refine lv_aload_n hx hb dX5_areTogetherForRival_8 rfl (lv_at hl 0 rfl) ?_
  refine q_get hx hb hT hown hK hP kw_X5 0 rfl rfl 4 (by decide) kf_X5_27 rfl (v := .ref (ad 4)) rfl dX5_areTogetherForRival_9 ?_
  refine lv_iload_n hx hb dX5_areTogetherForRival_12 rfl (lv_at hl 2 rfl) ?_
  refine q_callI (As := [.int (nI j)]) (r := g 4 j) (wc := rowW cA (ad 4) (ad 34) 16 (g 4)) (w1 := rowW cA (ad 4) (ad 34) 16 (g 4)) (ws1 := rlW cA ad g z) hx hb hml hown hT hK hP hD hS hA (c_X3_atN l D cA (ad 4) (ad 34) 16 (g 4) j (by omega) (by omega)) k_X3_at kl_X5_105 (q0 := 0) rfl rfl rfl [9, 10] rfl rfl rfl rfl hl rfl rfl (Nat.le_of_ble_eq_true rfl) ⟨⟨rfl, rfl⟩, Nat.le_of_ble_eq_true rfl, Nat.le_of_ble_eq_true rfl⟩ ⟨Nat.zero_le _, Nat.zero_le _⟩ dX5_areTogetherForRival_13 (fun H locs hP hD hS => ?_)
  refine q_callSI (As := [.int (g 4 i), .int (g 4 j)]) (r := q_b (kn (g 4 i) (g 4 j))) hx hb hml hown hT hK hP hD hS hA (c_X5_areSameAndKnown l D cA (g 4 i) (g 4 j)) k_X5_areSameAndKnown kl_X5_239 hl rfl rfl (Nat.le_of_ble_eq_true rfl) ⟨⟨rfl, rfl⟩, Nat.le_of_ble_eq_true rfl, Nat.le_of_ble_eq_true rfl⟩ ⟨Nat.zero_le _, Nat.zero_le _⟩ dX5_areTogetherForRival_16 (fun H locs hP hD hS => ?_)
  exact q_zret hx hb hr hlk (q_b_or _) (by rfl) hP hS dX5_areTogetherForRival_19
abbrev rm_X5_reasonOfPair : Room := { frames := 3, cells := 0, slots := 0, locals := 67 }
set_option maxRecDepth 100000 in
set_option maxHeartbeats 4000000 in
theorem c_X5_reasonOfPair (l : Launch) (D : va_G) (cA : ClassId) (ad : Nat → Nat) (g : Nat → Nat → Int32) (z : Nat → Nat) (i : Nat) (j : Nat) (hi : i < 16) (hj : j < 16) : q_CI l yX5_reasonOfPair [Cond.code yX5_reasonOfPair cX5_reasonOfPair 3 (some .int)] rm_X5_reasonOfPair D cA [.ref (ad 70), .int (nI i), .int (nI j)] (rlW cA ad g z) (nI (rop g i j)) (rlW cA ad g z) := by
  refine q_startI RX5 (by decide +kernel) rfl (Nat.le_of_ble_eq_true rfl) ?_
  intro p e s m below meth c A args H locs ls hx hb hr hml hown hT hlk hP hK hD hA hS hl
  have hl : lv_has ls 3 [(0, .ref (ad 70)), (1, .int (nI i)), (2, .int (nI j))] := hl
  refine lv_aload_n hx hb dX5_reasonOfPair_0 rfl (lv_at hl 0 rfl) ?_
  refine q_get hx hb hT hown hK hP kw_X5 0 rfl rfl 8 (by decide) kf_X5_43 rfl (v := .ref (ad 62)) rfl dX5_reasonOfPair_1 ?_
  refine lv_iload_n hx hb dX5_reasonOfPair_4 rfl (lv_at hl 1 rfl) ?_
  refine lv_iload_n hx hb dX5_reasonOfPair_5 rfl (lv_at hl 2 rfl) ?_
  refine q_callI (As := [.int (nI i), .int (nI j)]) (r := q_b (hasB (g 10 i) (nI j))) (wc := prW cA (ad 62) (ad 10) (ad 40) 16 (g 10)) (w1 := prW cA (ad 62) (ad 10) (ad 40) 16 (g 10)) (ws1 := rlW cA ad g z) hx hb hml hown hT hK hP hD hS hA (c_X1_hasN l D cA (ad 62) (ad 10) (ad 40) 16 (g 10) i (nI j) (by omega) (by omega)) k_X1_has kl_X5_242 (q0 := 0) rfl rfl rfl [23, 24, 25] rfl rfl rfl rfl hl rfl rfl (Nat.le_of_ble_eq_true rfl) ⟨⟨rfl, rfl⟩, Nat.le_of_ble_eq_true rfl, Nat.le_of_ble_eq_true rfl⟩ ⟨Nat.zero_le _, Nat.zero_le _⟩ dX5_reasonOfPair_6 (fun H locs hP hD hS => ?_)
  refine lv_if_eq (tgt := 14) hx hb dX5_reasonOfPair_9 (by decide) (fun c_9 => ?_) (fun c_9 => ?_)
  · have c_9 := q_b0e c_9
    refine lv_aload_n hx hb dX5_reasonOfPair_14 rfl (lv_at hl 0 rfl) ?_
    refine lv_iload_n hx hb dX5_reasonOfPair_15 rfl (lv_at hl 1 rfl) ?_
    refine lv_iload_n hx hb dX5_reasonOfPair_16 rfl (lv_at hl 2 rfl) ?_
    refine q_callIW (As := [.int (nI i), .int (nI j)]) (r := q_b (hof ((g 1) i) ((g 1) j))) (w1 := rlW cA ad g z) hx hb hml hown hT hK hP hD hS hA (c_X5_haveOtherFamilies l D cA ad g z i j (show i < 16 by omega) (show j < 16 by omega)) k_X5_haveOtherFamilies kl_X5_260 (q0 := 0) rfl rfl rfl ((rlW_adr _ _ _ _).trans (rlW_adr _ _ _ _).symm) hl rfl rfl (Nat.le_of_ble_eq_true rfl) ⟨⟨rfl, rfl⟩, Nat.le_of_ble_eq_true rfl, Nat.le_of_ble_eq_true rfl⟩ ⟨Nat.zero_le _, Nat.zero_le _⟩ dX5_reasonOfPair_17 (fun H locs hP hD hS => ?_)
    refine lv_if_eq (tgt := 25) hx hb dX5_reasonOfPair_20 (by decide) (fun c_20 => ?_) (fun c_20 => ?_)
    · have c_20 := q_b0e c_20
      refine lv_aload_n hx hb dX5_reasonOfPair_25 rfl (lv_at hl 0 rfl) ?_
      refine lv_iload_n hx hb dX5_reasonOfPair_26 rfl (lv_at hl 1 rfl) ?_
      refine lv_iload_n hx hb dX5_reasonOfPair_27 rfl (lv_at hl 2 rfl) ?_
      refine q_callIW (As := [.int (nI i), .int (nI j)]) (r := q_b (abo g i j)) (w1 := rlW cA ad g z) hx hb hml hown hT hK hP hD hS hA (c_X5_areBarredAtOnce l D cA ad g z i j (show i < 16 by omega) (show j < 16 by omega)) k_X5_areBarredAtOnce kl_X5_263 (q0 := 0) rfl rfl rfl ((rlW_adr _ _ _ _).trans (rlW_adr _ _ _ _).symm) hl rfl rfl (Nat.le_of_ble_eq_true rfl) ⟨⟨rfl, rfl⟩, Nat.le_of_ble_eq_true rfl, Nat.le_of_ble_eq_true rfl⟩ ⟨Nat.zero_le _, Nat.zero_le _⟩ dX5_reasonOfPair_28 (fun H locs hP hD hS => ?_)
      refine lv_if_eq (tgt := 38) hx hb dX5_reasonOfPair_31 (by decide) (fun c_31 => ?_) (fun c_31 => ?_)
      · have c_31 := q_b0e c_31
        refine lv_bipush (v := nI 6) hx hb dX5_reasonOfPair_38 (by decide +kernel) ?_
        exact q_iret hx hb hr hlk (by first | rw [rop, if_neg (by rw [c_9]; exact Bool.false_ne_true), if_neg (by rw [c_20]; exact Bool.false_ne_true), if_pos c_31] | rw [rop, if_neg (by rw [c_9]; exact Bool.false_ne_true), if_neg (by rw [c_20]; exact Bool.false_ne_true), if_neg (by rw [c_31]; exact Bool.false_ne_true)]) hP hS dX5_reasonOfPair_40
      · have c_31 := q_b0n c_31
        refine lv_iconst (v := nI 4) hx hb dX5_reasonOfPair_34 (by decide +kernel) ?_
        refine lv_goto (tgt := 40) hx hb dX5_reasonOfPair_35 (by decide) ?_
        exact q_iret hx hb hr hlk (by first | rw [rop, if_neg (by rw [c_9]; exact Bool.false_ne_true), if_neg (by rw [c_20]; exact Bool.false_ne_true), if_pos c_31] | rw [rop, if_neg (by rw [c_9]; exact Bool.false_ne_true), if_neg (by rw [c_20]; exact Bool.false_ne_true), if_neg (by rw [c_31]; exact Bool.false_ne_true)]) hP hS dX5_reasonOfPair_40
    · have c_20 := q_b0n c_20
      refine lv_iconst (v := nI 3) hx hb dX5_reasonOfPair_23 (by decide +kernel) ?_
      exact q_iret hx hb hr hlk (by rw [rop, if_neg (by rw [c_9]; exact Bool.false_ne_true), if_pos c_20]) hP hS dX5_reasonOfPair_24
  · have c_9 := q_b0n c_9
    refine lv_iconst (v := nI 2) hx hb dX5_reasonOfPair_12 (by decide +kernel) ?_
    exact q_iret hx hb hr hlk (by rw [rop, if_pos c_9]) hP hS dX5_reasonOfPair_13
abbrev rm_X5_reasonAgainstAny : Room := { frames := 4, cells := 0, slots := 0, locals := 89 }
set_option maxRecDepth 100000 in
set_option maxHeartbeats 4000000 in
theorem c_X5_reasonAgainstAny (l : Launch) (D : va_G) (cA : ClassId) (ad : Nat → Nat) (g : Nat → Nat → Int32) (z : Nat → Nat) (i : Nat) (w : Int32) (hi : i < 16) (hc : (z 0) ≤ 16) : q_CI l yX5_reasonAgainstAny [Cond.code yX5_reasonAgainstAny cX5_reasonAgainstAny 5 (some .int)] rm_X5_reasonAgainstAny D cA [.ref (ad 70), .int (nI i), .int w] (rlW cA ad g z) (nI (raN g i w (z 0))) (rlW cA ad g z) := by
  refine q_startI RX5 (by decide +kernel) rfl (Nat.le_of_ble_eq_true rfl) ?_
  intro p e s m below meth c A args H locs ls hx hb hr hml hown hT hlk hP hK hD hA hS hl
  have hl : lv_has ls 5 [(0, .ref (ad 70)), (1, .int (nI i)), (2, .int w)] := hl
  have zqL6 : ∀ (fu : Nat), ∀ (k : Nat), (z 0 + 1 ≤ k + fu) → (k ≤ (z 0)) → ∀ (H : Heap) (locs : List Loc) (ls : Array Slot), va_P D vwCl (rlW cA ad g z) H → va_D A (rlW cA ad g z) → va_S A s.heap H locs → lv_has ls 5 [(0, .ref (ad 70)), (1, .int (nI i)), (2, .int w), (3, .int (nI (raN g i w k))), (4, .int (nI k))] → W p l e rm_X5_reasonAgainstAny s m args below meth c H locs 0 0 (q_GI D (nI (raN g i w (z 0))) (rlW cA ad g z) A below args s) (F0 m 6 ls []) := by
    intro fu
    induction fu with
    | zero =>
      intro k hfu hk H locs ls hP hD hS hl
      exfalso; omega
    | succ fu ih6 =>
      intro k hfu hk H locs ls hP hD hS hl
      have zqJ40 : (k < (z 0)) → ∀ (H : Heap) (locs : List Loc) (ls : Array Slot), va_P D vwCl (rlW cA ad g z) H → va_D A (rlW cA ad g z) → va_S A s.heap H locs → lv_has ls 5 [(0, .ref (ad 70)), (1, .int (nI i)), (2, .int w), (3, .int (nI (raN g i w (k + 1)))), (4, .int (nI k))] → W p l e rm_X5_reasonAgainstAny s m args below meth c H locs 0 0 (q_GI D (nI (raN g i w (z 0))) (rlW cA ad g z) A below args s) (F0 m 40 ls []) := by
        intro  hk9 H locs ls hP hD hS hl
        refine lv_iinc (v := nI (k + 1)) (lv' := [(4, .int (nI (k + 1))), (0, .ref (ad 70)), (1, .int (nI i)), (2, .int w), (3, .int (nI (raN g i w (k + 1))))]) hx hb dX5_reasonAgainstAny_40 hl (k := 4) rfl (q_inc1 _) (by decide) rfl (fun ls hl => ?_)
        refine lv_goto (tgt := 6) hx hb dX5_reasonAgainstAny_43 (by decide) ?_
        exact ih6 (k + 1) (by omega) (by omega) _ _ _ hP hD hS (lv_sub hl [1, 2, 3, 4, 0] rfl)
      refine lv_iload hx hb dX5_reasonAgainstAny_6 (lv_at hl 4 rfl) ?_
      refine lv_aload_n hx hb dX5_reasonAgainstAny_8 rfl (lv_at hl 0 rfl) ?_
      refine q_get hx hb hT hown hK hP kw_X5 0 rfl rfl 15 (by decide) kf_X5_87 rfl (v := .int (nI (z 0))) rfl dX5_reasonAgainstAny_9 ?_
      refine lv_icmp_ge (tgt := 46) hx hb dX5_reasonAgainstAny_12 (by decide) (fun c_12 => ?_) (fun c_12 => ?_)
      · have c_12 := nI_le1 (a := z 0) (b := k) (by omega) (by omega) c_12
        refine lv_iload_n hx hb dX5_reasonAgainstAny_46 rfl (lv_at hl 3 rfl) ?_
        exact q_iret hx hb hr hlk (by rw [show k = z 0 by omega]) hP hS dX5_reasonAgainstAny_47
      · have c_12 := nI_le0 (a := z 0) (b := k) (by omega) (by omega) c_12
        refine lv_aload_n hx hb dX5_reasonAgainstAny_15 rfl (lv_at hl 0 rfl) ?_
        refine q_get hx hb hT hown hK hP kw_X5 0 rfl rfl 11 (by decide) kf_X5_59 rfl (v := .ref (ad 72)) rfl dX5_reasonAgainstAny_16 ?_
        refine lv_iload hx hb dX5_reasonAgainstAny_19 (lv_at hl 4 rfl) ?_
        refine q_callIS (As := [.int (nI k)]) (r := (g 22) k) (wc := psW cA ad g z) (w1 := psW cA ad g z) (ws1 := rlW cA ad g z) hx hb hml hown hT hK hP hD hS hA (c_X2_ownerOf l D cA ad g z k (show k < 16 by omega)) k_X2_ownerOf kl_X5_164 (q0 := 0) rfl rfl rfl (rl_a cA ad g z ++ yrW cA ad g z) (gpW cA ad g z) (List.append_assoc _ _ _).symm (rl_p rfl rfl rfl) ((psW_adr _ _ _ _).trans (psW_adr _ _ _ _).symm) hl rfl rfl (Nat.le_of_ble_eq_true rfl) ⟨⟨rfl, rfl⟩, Nat.le_of_ble_eq_true rfl, Nat.le_of_ble_eq_true rfl⟩ ⟨Nat.zero_le _, Nat.zero_le _⟩ dX5_reasonAgainstAny_21 (fun H locs hP hD hS => ?_)
        refine lv_iload_n hx hb dX5_reasonAgainstAny_24 rfl (lv_at hl 2 rfl) ?_
        refine lv_icmp_ne (tgt := 40) hx hb dX5_reasonAgainstAny_25 (by decide) (fun c_25 => ?_) (fun c_25 => ?_)
        · have e9_0 : (nI (raN g i w k)) = (nI (raN g i w (k + 1))) := by first | with_reducible rfl | (first | rw [raN_f c_25] | rw [raN_t c_25])
          have hl9 : lv_has ls 5 [(0, .ref (ad 70)), (1, .int (nI i)), (2, .int w), (3, .int (nI (raN g i w (k + 1)))), (4, .int (nI k))] := lv_cast (l := [(0, .ref (ad 70)), (1, .int (nI i)), (2, .int w), (3, .int (nI (raN g i w k))), (4, .int (nI k))]) (lv_sub hl [0, 1, 2, 3, 4] rfl) (congrArg (fun v9 : Int32 => ([(0, .ref (ad 70)), (1, .int (nI i)), (2, .int w), (3, .int v9), (4, .int (nI k))] : List (Nat × Value))) e9_0)
          exact zqJ40  (by omega) _ _ _ hP hD hS hl9
        · refine lv_iload_n hx hb dX5_reasonAgainstAny_28 rfl (lv_at hl 3 rfl) ?_
          refine lv_aload_n hx hb dX5_reasonAgainstAny_29 rfl (lv_at hl 0 rfl) ?_
          refine lv_iload_n hx hb dX5_reasonAgainstAny_30 rfl (lv_at hl 1 rfl) ?_
          refine lv_iload hx hb dX5_reasonAgainstAny_31 (lv_at hl 4 rfl) ?_
          refine q_callIW (As := [.int (nI i), .int (nI k)]) (r := nI (rop g i k)) (w1 := rlW cA ad g z) hx hb hml hown hT hK hP hD hS hA (c_X5_reasonOfPair l D cA ad g z i k (show i < 16 by omega) (show k < 16 by omega)) k_X5_reasonOfPair kl_X5_257 (q0 := 0) rfl rfl rfl ((rlW_adr _ _ _ _).trans (rlW_adr _ _ _ _).symm) hl rfl rfl (Nat.le_of_ble_eq_true rfl) ⟨⟨rfl, rfl⟩, Nat.le_of_ble_eq_true rfl, Nat.le_of_ble_eq_true rfl⟩ ⟨Nat.zero_le _, Nat.zero_le _⟩ dX5_reasonAgainstAny_33 (fun H locs hP hD hS => ?_)
          refine q_min hx hb hml hown hT hl kl_X5_252 (Nat.le_of_ble_eq_true rfl) (Nat.le_of_ble_eq_true rfl) ⟨Nat.zero_le _, Nat.zero_le _⟩ dX5_reasonAgainstAny_36 ?_
          refine q_top (y := nI (min (raN g i w k) (rop g i k))) (q_minN (by have := raN_le g i w k; omega) (by have := rop_le g i k; omega)) ?_
          refine lv_istore_n (lv' := [(3, .int (nI (min (raN g i w k) (rop g i k)))), (0, .ref (ad 70)), (1, .int (nI i)), (2, .int w), (4, .int (nI k))]) hx hb dX5_reasonAgainstAny_39 rfl hl (by decide) rfl (fun ls hl => ?_)
          have e9_0 : (nI (min (raN g i w k) (rop g i k))) = (nI (raN g i w (k + 1))) := by first | with_reducible rfl | (first | rw [raN_f c_25] | rw [raN_t c_25])
          have hl9 : lv_has ls 5 [(0, .ref (ad 70)), (1, .int (nI i)), (2, .int w), (3, .int (nI (raN g i w (k + 1)))), (4, .int (nI k))] := lv_cast (l := [(0, .ref (ad 70)), (1, .int (nI i)), (2, .int w), (3, .int (nI (min (raN g i w k) (rop g i k)))), (4, .int (nI k))]) (lv_sub hl [1, 2, 3, 0, 4] rfl) (congrArg (fun v9 : Int32 => ([(0, .ref (ad 70)), (1, .int (nI i)), (2, .int w), (3, .int v9), (4, .int (nI k))] : List (Nat × Value))) e9_0)
          exact zqJ40  (by omega) _ _ _ hP hD hS hl9
  refine lv_bipush (v := nI 6) hx hb dX5_reasonAgainstAny_0 (by decide +kernel) ?_
  refine lv_istore_n (lv' := [(3, .int (nI 6)), (0, .ref (ad 70)), (1, .int (nI i)), (2, .int w)]) hx hb dX5_reasonAgainstAny_2 rfl hl (by decide) rfl (fun ls hl => ?_)
  refine lv_iconst (v := nI 0) hx hb dX5_reasonAgainstAny_3 (by decide +kernel) ?_
  refine lv_istore (lv' := [(4, .int (nI 0)), (3, .int (nI 6)), (0, .ref (ad 70)), (1, .int (nI i)), (2, .int w)]) hx hb dX5_reasonAgainstAny_4 hl (by decide) rfl (fun ls hl => ?_)
  have e9_0 : (nI 6) = (nI (raN g i w 0)) := by first | with_reducible rfl | (rfl)
  have hl9 : lv_has ls 5 [(0, .ref (ad 70)), (1, .int (nI i)), (2, .int w), (3, .int (nI (raN g i w 0))), (4, .int (nI 0))] := lv_cast (l := [(0, .ref (ad 70)), (1, .int (nI i)), (2, .int w), (3, .int (nI 6)), (4, .int (nI 0))]) (lv_sub hl [2, 3, 4, 1, 0] rfl) (congrArg (fun v9 : Int32 => ([(0, .ref (ad 70)), (1, .int (nI i)), (2, .int w), (3, .int v9), (4, .int (nI 0))] : List (Nat × Value))) e9_0)
  exact zqL6 (z 0 + 1) 0 (by omega) (by omega) _ _ _ hP hD hS hl9
abbrev rm_X5_reasonAgainst : Room := { frames := 5, cells := 0, slots := 0, locals := 113 }
set_option maxRecDepth 100000 in
set_option maxHeartbeats 4000000 in
theorem c_X5_reasonAgainst (l : Launch) (D : va_G) (cA : ClassId) (ad : Nat → Nat) (g : Nat → Nat → Int32) (z : Nat → Nat) (i : Nat) (j : Nat) (hi : i < 16) (hj : j < 16) (hc : (z 0) ≤ 16) : q_CI l yX5_reasonAgainst [Cond.code yX5_reasonAgainst cX5_reasonAgainst 7 (some .int)] rm_X5_reasonAgainst D cA [.ref (ad 70), .int (nI i), .int (nI j)] (rlW cA ad g z) (nI (raG g (z 0) i j)) (rlW cA ad g z) := by
  refine q_startI RX5 (by decide +kernel) rfl (Nat.le_of_ble_eq_true rfl) ?_
  intro p e s m below meth c A args H locs ls hx hb hr hml hown hT hlk hP hK hD hA hS hl
  have hl : lv_has ls 7 [(0, .ref (ad 70)), (1, .int (nI i)), (2, .int (nI j))] := hl
  have hw9 : wtN g i j ≤ 13 := wtN_le g i j
  have zqJ43 : (¬ g 22 i = g 22 j) → ∀ (H : Heap) (locs : List Loc) (ls : Array Slot), va_P D vwCl (rlW cA ad g z) H → va_D A (rlW cA ad g z) → va_S A s.heap H locs → lv_has ls 7 [(0, .ref (ad 70)), (1, .int (nI i)), (2, .int (nI j)), (3, .int (g 22 i)), (4, .int (g 22 j))] → W p l e rm_X5_reasonAgainst s m args below meth c H locs 0 0 (q_GI D (nI (raG g (z 0) i j)) (rlW cA ad g z) A below args s) (F0 m 43 ls [.int (nI (raA g (z 0) i j 0))]) := by
    intro  hne H locs ls hP hD hS hl
    have zqL48 : ∀ (fu : Nat), ∀ (k : Nat), (z 0 + 1 ≤ k + fu) → (k ≤ (z 0)) → ∀ (H : Heap) (locs : List Loc) (ls : Array Slot), va_P D vwCl (rlW cA ad g z) H → va_D A (rlW cA ad g z) → va_S A s.heap H locs → lv_has ls 7 [(0, .ref (ad 70)), (1, .int (nI i)), (2, .int (nI j)), (3, .int (g 22 i)), (4, .int (g 22 j)), (5, .int (nI (raA g (z 0) i j k))), (6, .int (nI k))] → W p l e rm_X5_reasonAgainst s m args below meth c H locs 0 0 (q_GI D (nI (raG g (z 0) i j)) (rlW cA ad g z) A below args s) (F0 m 48 ls []) := by
      intro fu
      induction fu with
      | zero =>
        intro k hfu hk H locs ls hP hD hS hl
        exfalso; omega
      | succ fu ih48 =>
        intro k hfu hk H locs ls hP hD hS hl
        have zqJ85 : (k < (z 0)) → ∀ (H : Heap) (locs : List Loc) (ls : Array Slot), va_P D vwCl (rlW cA ad g z) H → va_D A (rlW cA ad g z) → va_S A s.heap H locs → lv_has ls 7 [(0, .ref (ad 70)), (1, .int (nI i)), (2, .int (nI j)), (3, .int (g 22 i)), (4, .int (g 22 j)), (5, .int (nI (raA g (z 0) i j (k + 1)))), (6, .int (nI k))] → W p l e rm_X5_reasonAgainst s m args below meth c H locs 0 0 (q_GI D (nI (raG g (z 0) i j)) (rlW cA ad g z) A below args s) (F0 m 85 ls []) := by
          intro  hk9 H locs ls hP hD hS hl
          refine lv_iinc (v := nI (k + 1)) (lv' := [(6, .int (nI (k + 1))), (0, .ref (ad 70)), (1, .int (nI i)), (2, .int (nI j)), (3, .int (g 22 i)), (4, .int (g 22 j)), (5, .int (nI (raA g (z 0) i j (k + 1))))]) hx hb dX5_reasonAgainst_85 hl (k := 6) rfl (q_inc1 _) (by decide) rfl (fun ls hl => ?_)
          refine lv_goto (tgt := 48) hx hb dX5_reasonAgainst_88 (by decide) ?_
          exact ih48 (k + 1) (by omega) (by omega) _ _ _ hP hD hS (lv_sub hl [1, 2, 3, 4, 5, 6, 0] rfl)
        refine lv_iload hx hb dX5_reasonAgainst_48 (lv_at hl 6 rfl) ?_
        refine lv_aload_n hx hb dX5_reasonAgainst_50 rfl (lv_at hl 0 rfl) ?_
        refine q_get hx hb hT hown hK hP kw_X5 0 rfl rfl 15 (by decide) kf_X5_87 rfl (v := .int (nI (z 0))) rfl dX5_reasonAgainst_51 ?_
        refine lv_icmp_ge (tgt := 91) hx hb dX5_reasonAgainst_54 (by decide) (fun c_54 => ?_) (fun c_54 => ?_)
        · have c_54 := nI_le1 (a := z 0) (b := k) (by omega) (by omega) c_54
          refine lv_iload hx hb dX5_reasonAgainst_91 (lv_at hl 5 rfl) ?_
          refine lv_bipush (v := nI 6) hx hb dX5_reasonAgainst_93 (by decide +kernel) ?_
          have hra := raA_le g (z 0) i j k
          refine lv_icmp_ne (tgt := 102) hx hb dX5_reasonAgainst_95 (by decide) (fun c_95 => ?_) (fun c_95 => ?_)
          · have c_95 := nI_eq0 (a := raA g (z 0) i j k) (b := 6) (by omega) (by omega) c_95
            refine lv_iload hx hb dX5_reasonAgainst_102 (lv_at hl 5 rfl) ?_
            exact q_iret hx hb hr hlk (by first | exact raG_6 hne (by omega) c_95 | exact raG_n hne (by omega) c_95) hP hS dX5_reasonAgainst_104
          · have c_95 := nI_eq1 (a := raA g (z 0) i j k) (b := 6) (by omega) (by omega) c_95
            refine lv_iconst (v := nI 0) hx hb dX5_reasonAgainst_98 (by decide +kernel) ?_
            refine lv_goto (tgt := 104) hx hb dX5_reasonAgainst_99 (by decide) ?_
            exact q_iret hx hb hr hlk (by first | exact raG_6 hne (by omega) c_95 | exact raG_n hne (by omega) c_95) hP hS dX5_reasonAgainst_104
        · have c_54 := nI_le0 (a := z 0) (b := k) (by omega) (by omega) c_54
          refine lv_aload_n hx hb dX5_reasonAgainst_57 rfl (lv_at hl 0 rfl) ?_
          refine q_get hx hb hT hown hK hP kw_X5 0 rfl rfl 11 (by decide) kf_X5_59 rfl (v := .ref (ad 72)) rfl dX5_reasonAgainst_58 ?_
          refine lv_iload hx hb dX5_reasonAgainst_61 (lv_at hl 6 rfl) ?_
          refine q_callIS (As := [.int (nI k)]) (r := (g 22) k) (wc := psW cA ad g z) (w1 := psW cA ad g z) (ws1 := rlW cA ad g z) hx hb hml hown hT hK hP hD hS hA (c_X2_ownerOf l D cA ad g z k (show k < 16 by omega)) k_X2_ownerOf kl_X5_164 (q0 := 0) rfl rfl rfl (rl_a cA ad g z ++ yrW cA ad g z) (gpW cA ad g z) (List.append_assoc _ _ _).symm (rl_p rfl rfl rfl) ((psW_adr _ _ _ _).trans (psW_adr _ _ _ _).symm) hl rfl rfl (Nat.le_of_ble_eq_true rfl) ⟨⟨rfl, rfl⟩, Nat.le_of_ble_eq_true rfl, Nat.le_of_ble_eq_true rfl⟩ ⟨Nat.zero_le _, Nat.zero_le _⟩ dX5_reasonAgainst_63 (fun H locs hP hD hS => ?_)
          refine lv_iload_n hx hb dX5_reasonAgainst_66 rfl (lv_at hl 3 rfl) ?_
          refine lv_icmp_ne (tgt := 85) hx hb dX5_reasonAgainst_67 (by decide) (fun c_67 => ?_) (fun c_67 => ?_)
          · have e9_0 : (nI (raA g (z 0) i j k)) = (nI (raA g (z 0) i j (k + 1))) := by first | with_reducible rfl | (first | rw [raA_f c_67] | rw [raA_t c_67])
            have hl9 : lv_has ls 7 [(0, .ref (ad 70)), (1, .int (nI i)), (2, .int (nI j)), (3, .int (g 22 i)), (4, .int (g 22 j)), (5, .int (nI (raA g (z 0) i j (k + 1)))), (6, .int (nI k))] := lv_cast (l := [(0, .ref (ad 70)), (1, .int (nI i)), (2, .int (nI j)), (3, .int (g 22 i)), (4, .int (g 22 j)), (5, .int (nI (raA g (z 0) i j k))), (6, .int (nI k))]) (lv_sub hl [0, 1, 2, 3, 4, 5, 6] rfl) (congrArg (fun v9 : Int32 => ([(0, .ref (ad 70)), (1, .int (nI i)), (2, .int (nI j)), (3, .int (g 22 i)), (4, .int (g 22 j)), (5, .int v9), (6, .int (nI k))] : List (Nat × Value))) e9_0)
            exact zqJ85  (by omega) _ _ _ hP hD hS hl9
          · refine lv_iload hx hb dX5_reasonAgainst_70 (lv_at hl 5 rfl) ?_
            refine lv_aload_n hx hb dX5_reasonAgainst_72 rfl (lv_at hl 0 rfl) ?_
            refine lv_iload hx hb dX5_reasonAgainst_73 (lv_at hl 6 rfl) ?_
            refine lv_iload hx hb dX5_reasonAgainst_75 (lv_at hl 4 rfl) ?_
            refine q_callIW (As := [.int (nI k), .int (g 22 j)]) (r := nI (raN g k (g 22 j) (z 0))) (w1 := rlW cA ad g z) hx hb hml hown hT hK hP hD hS hA (c_X5_reasonAgainstAny l D cA ad g z k (g 22 j) (show k < 16 by omega) (show (z 0) ≤ 16 by omega)) k_X5_reasonAgainstAny kl_X5_249 (q0 := 0) rfl rfl rfl ((rlW_adr _ _ _ _).trans (rlW_adr _ _ _ _).symm) hl rfl rfl (Nat.le_of_ble_eq_true rfl) ⟨⟨rfl, rfl⟩, Nat.le_of_ble_eq_true rfl, Nat.le_of_ble_eq_true rfl⟩ ⟨Nat.zero_le _, Nat.zero_le _⟩ dX5_reasonAgainst_77 (fun H locs hP hD hS => ?_)
            refine q_min hx hb hml hown hT hl kl_X5_252 (Nat.le_of_ble_eq_true rfl) (Nat.le_of_ble_eq_true rfl) ⟨Nat.zero_le _, Nat.zero_le _⟩ dX5_reasonAgainst_80 ?_
            refine q_top (y := nI (min (raA g (z 0) i j k) (raN g k (g 22 j) (z 0)))) (q_minN (by have := raA_le g (z 0) i j k; omega) (by have := raN_le g k (g 22 j) (z 0); omega)) ?_
            refine lv_istore (lv' := [(5, .int (nI (min (raA g (z 0) i j k) (raN g k (g 22 j) (z 0))))), (0, .ref (ad 70)), (1, .int (nI i)), (2, .int (nI j)), (3, .int (g 22 i)), (4, .int (g 22 j)), (6, .int (nI k))]) hx hb dX5_reasonAgainst_83 hl (by decide) rfl (fun ls hl => ?_)
            have e9_0 : (nI (min (raA g (z 0) i j k) (raN g k (g 22 j) (z 0)))) = (nI (raA g (z 0) i j (k + 1))) := by first | with_reducible rfl | (first | rw [raA_f c_67] | rw [raA_t c_67])
            have hl9 : lv_has ls 7 [(0, .ref (ad 70)), (1, .int (nI i)), (2, .int (nI j)), (3, .int (g 22 i)), (4, .int (g 22 j)), (5, .int (nI (raA g (z 0) i j (k + 1)))), (6, .int (nI k))] := lv_cast (l := [(0, .ref (ad 70)), (1, .int (nI i)), (2, .int (nI j)), (3, .int (g 22 i)), (4, .int (g 22 j)), (5, .int (nI (min (raA g (z 0) i j k) (raN g k (g 22 j) (z 0))))), (6, .int (nI k))]) (lv_sub hl [1, 2, 3, 4, 5, 0, 6] rfl) (congrArg (fun v9 : Int32 => ([(0, .ref (ad 70)), (1, .int (nI i)), (2, .int (nI j)), (3, .int (g 22 i)), (4, .int (g 22 j)), (5, .int v9), (6, .int (nI k))] : List (Nat × Value))) e9_0)
            exact zqJ85  (by omega) _ _ _ hP hD hS hl9
    refine lv_istore (lv' := [(5, .int (nI (raA g (z 0) i j 0))), (0, .ref (ad 70)), (1, .int (nI i)), (2, .int (nI j)), (3, .int (g 22 i)), (4, .int (g 22 j))]) hx hb dX5_reasonAgainst_43 hl (by decide) rfl (fun ls hl => ?_)
    refine lv_iconst (v := nI 0) hx hb dX5_reasonAgainst_45 (by decide +kernel) ?_
    refine lv_istore (lv' := [(6, .int (nI 0)), (5, .int (nI (raA g (z 0) i j 0))), (0, .ref (ad 70)), (1, .int (nI i)), (2, .int (nI j)), (3, .int (g 22 i)), (4, .int (g 22 j))]) hx hb dX5_reasonAgainst_46 hl (by decide) rfl (fun ls hl => ?_)
    exact zqL48 (z 0 + 1) 0 (by omega) (by omega) _ _ _ hP hD hS (lv_sub hl [2, 3, 4, 5, 6, 1, 0] rfl)
  refine lv_aload_n hx hb dX5_reasonAgainst_0 rfl (lv_at hl 0 rfl) ?_
  refine q_get hx hb hT hown hK hP kw_X5 0 rfl rfl 11 (by decide) kf_X5_59 rfl (v := .ref (ad 72)) rfl dX5_reasonAgainst_1 ?_
  refine lv_iload_n hx hb dX5_reasonAgainst_4 rfl (lv_at hl 1 rfl) ?_
  refine q_callIS (As := [.int (nI i)]) (r := (g 22) i) (wc := psW cA ad g z) (w1 := psW cA ad g z) (ws1 := rlW cA ad g z) hx hb hml hown hT hK hP hD hS hA (c_X2_ownerOf l D cA ad g z i (show i < 16 by omega)) k_X2_ownerOf kl_X5_164 (q0 := 0) rfl rfl rfl (rl_a cA ad g z ++ yrW cA ad g z) (gpW cA ad g z) (List.append_assoc _ _ _).symm (rl_p rfl rfl rfl) ((psW_adr _ _ _ _).trans (psW_adr _ _ _ _).symm) hl rfl rfl (Nat.le_of_ble_eq_true rfl) ⟨⟨rfl, rfl⟩, Nat.le_of_ble_eq_true rfl, Nat.le_of_ble_eq_true rfl⟩ ⟨Nat.zero_le _, Nat.zero_le _⟩ dX5_reasonAgainst_5 (fun H locs hP hD hS => ?_)
  refine lv_istore_n (lv' := [(3, .int ((g 22) i)), (0, .ref (ad 70)), (1, .int (nI i)), (2, .int (nI j))]) hx hb dX5_reasonAgainst_8 rfl hl (by decide) rfl (fun ls hl => ?_)
  refine lv_aload_n hx hb dX5_reasonAgainst_9 rfl (lv_at hl 1 rfl) ?_
  refine q_get hx hb hT hown hK hP kw_X5 0 rfl rfl 11 (by decide) kf_X5_59 rfl (v := .ref (ad 72)) rfl dX5_reasonAgainst_10 ?_
  refine lv_iload_n hx hb dX5_reasonAgainst_13 rfl (lv_at hl 3 rfl) ?_
  refine q_callIS (As := [.int (nI j)]) (r := (g 22) j) (wc := psW cA ad g z) (w1 := psW cA ad g z) (ws1 := rlW cA ad g z) hx hb hml hown hT hK hP hD hS hA (c_X2_ownerOf l D cA ad g z j (show j < 16 by omega)) k_X2_ownerOf kl_X5_164 (q0 := 0) rfl rfl rfl (rl_a cA ad g z ++ yrW cA ad g z) (gpW cA ad g z) (List.append_assoc _ _ _).symm (rl_p rfl rfl rfl) ((psW_adr _ _ _ _).trans (psW_adr _ _ _ _).symm) hl rfl rfl (Nat.le_of_ble_eq_true rfl) ⟨⟨rfl, rfl⟩, Nat.le_of_ble_eq_true rfl, Nat.le_of_ble_eq_true rfl⟩ ⟨Nat.zero_le _, Nat.zero_le _⟩ dX5_reasonAgainst_14 (fun H locs hP hD hS => ?_)
  refine lv_istore (lv' := [(4, .int ((g 22) j)), (3, .int ((g 22) i)), (0, .ref (ad 70)), (1, .int (nI i)), (2, .int (nI j))]) hx hb dX5_reasonAgainst_17 hl (by decide) rfl (fun ls hl => ?_)
  refine lv_iload_n hx hb dX5_reasonAgainst_19 rfl (lv_at hl 1 rfl) ?_
  refine lv_iload hx hb dX5_reasonAgainst_20 (lv_at hl 0 rfl) ?_
  refine lv_icmp_ne (tgt := 27) hx hb dX5_reasonAgainst_22 (by decide) (fun c_22 => ?_) (fun c_22 => ?_)
  · refine lv_aload_n hx hb dX5_reasonAgainst_27 rfl (lv_at hl 2 rfl) ?_
    refine lv_iload_n hx hb dX5_reasonAgainst_28 rfl (lv_at hl 3 rfl) ?_
    refine lv_iload_n hx hb dX5_reasonAgainst_29 rfl (lv_at hl 4 rfl) ?_
    refine q_callIW (As := [.int (nI i), .int (nI j)]) (r := nI (wtN g i j)) (w1 := rlW cA ad g z) hx hb hml hown hT hK hP hD hS hA (c_X5_weightOf l D cA ad g z i j (show i < 16 by omega) (show j < 16 by omega)) k_X5_weightOf kl_X5_155 (q0 := 0) rfl rfl rfl ((rlW_adr _ _ _ _).trans (rlW_adr _ _ _ _).symm) hl rfl rfl (Nat.le_of_ble_eq_true rfl) ⟨⟨rfl, rfl⟩, Nat.le_of_ble_eq_true rfl, Nat.le_of_ble_eq_true rfl⟩ ⟨Nat.zero_le _, Nat.zero_le _⟩ dX5_reasonAgainst_30 (fun H locs hP hD hS => ?_)
    refine lv_iconst (v := nI 4) hx hb dX5_reasonAgainst_33 (by decide +kernel) ?_
    refine lv_icmp_ge (tgt := 41) hx hb dX5_reasonAgainst_34 (by decide) (fun c_34 => ?_) (fun c_34 => ?_)
    · have c_34 := nI_le1 (a := 4) (b := wtN g i j) (by omega) (by omega) c_34
      refine lv_bipush (v := nI 6) hx hb dX5_reasonAgainst_41 (by decide +kernel) ?_
      refine q_top (y := nI (raA g (z 0) i j 0)) (by first | rw [raA, if_pos c_34] | rw [raA, if_neg (by omega)]) ?_
      exact zqJ43  c_22 _ _ _ hP hD hS (lv_sub hl [2, 3, 4, 1, 0] rfl)
    · have c_34 := nI_le0 (a := 4) (b := wtN g i j) (by omega) (by omega) c_34
      refine lv_iconst (v := nI 5) hx hb dX5_reasonAgainst_37 (by decide +kernel) ?_
      refine lv_goto (tgt := 43) hx hb dX5_reasonAgainst_38 (by decide) ?_
      refine q_top (y := nI (raA g (z 0) i j 0)) (by first | rw [raA, if_pos c_34] | rw [raA, if_neg (by omega)]) ?_
      exact zqJ43  c_22 _ _ _ hP hD hS (lv_sub hl [2, 3, 4, 1, 0] rfl)
  · refine lv_iconst (v := nI 1) hx hb dX5_reasonAgainst_25 (by decide +kernel) ?_
    exact q_iret hx hb hr hlk (by rw [raG, if_pos c_22]) hP hS dX5_reasonAgainst_26
abbrev rm_X5_mentionsOf : Room := { frames := 2, cells := 0, slots := 0, locals := 42 }
set_option maxRecDepth 100000 in
set_option maxHeartbeats 4000000 in
theorem c_X5_mentionsOf (l : Launch) (D : va_G) (cA : ClassId) (ad : Nat → Nat) (g : Nat → Nat → Int32) (z : Nat → Nat) (w : Int32) (hc : (z 0) ≤ 16) : q_CI l yX5_mentionsOf [Cond.code yX5_mentionsOf cX5_mentionsOf 4 (some .int)] rm_X5_mentionsOf D cA [.ref (ad 70), .int w] (rlW cA ad g z) (nI (cntN (g 22) w (z 0))) (rlW cA ad g z) := by
  refine q_startI RX5 (by decide +kernel) rfl (Nat.le_of_ble_eq_true rfl) ?_
  intro p e s m below meth c A args H locs ls hx hb hr hml hown hT hlk hP hK hD hA hS hl
  have hl : lv_has ls 4 [(0, .ref (ad 70)), (1, .int w)] := hl
  have zqL4 : ∀ (fu : Nat), ∀ (k : Nat), (z 0 + 1 ≤ k + fu) → (k ≤ (z 0)) → ∀ (H : Heap) (locs : List Loc) (ls : Array Slot), va_P D vwCl (rlW cA ad g z) H → va_D A (rlW cA ad g z) → va_S A s.heap H locs → lv_has ls 4 [(0, .ref (ad 70)), (1, .int w), (2, .int (nI (cntN (g 22) w k))), (3, .int (nI k))] → W p l e rm_X5_mentionsOf s m args below meth c H locs 0 0 (q_GI D (nI (cntN (g 22) w (z 0))) (rlW cA ad g z) A below args s) (F0 m 4 ls []) := by
    intro fu
    induction fu with
    | zero =>
      intro k hfu hk H locs ls hP hD hS hl
      exfalso; omega
    | succ fu ih4 =>
      intro k hfu hk H locs ls hP hD hS hl
      have zqJ27 : (k < (z 0)) → ∀ (H : Heap) (locs : List Loc) (ls : Array Slot), va_P D vwCl (rlW cA ad g z) H → va_D A (rlW cA ad g z) → va_S A s.heap H locs → lv_has ls 4 [(0, .ref (ad 70)), (1, .int w), (2, .int (nI (cntN (g 22) w (k + 1)))), (3, .int (nI k))] → W p l e rm_X5_mentionsOf s m args below meth c H locs 0 0 (q_GI D (nI (cntN (g 22) w (z 0))) (rlW cA ad g z) A below args s) (F0 m 27 ls []) := by
        intro  hk9 H locs ls hP hD hS hl
        refine lv_iinc (v := nI (k + 1)) (lv' := [(3, .int (nI (k + 1))), (0, .ref (ad 70)), (1, .int w), (2, .int (nI (cntN (g 22) w (k + 1))))]) hx hb dX5_mentionsOf_27 hl (k := 3) rfl (q_inc1 _) (by decide) rfl (fun ls hl => ?_)
        refine lv_goto (tgt := 4) hx hb dX5_mentionsOf_30 (by decide) ?_
        exact ih4 (k + 1) (by omega) (by omega) _ _ _ hP hD hS (lv_sub hl [1, 2, 3, 0] rfl)
      refine lv_iload_n hx hb dX5_mentionsOf_4 rfl (lv_at hl 3 rfl) ?_
      refine lv_aload_n hx hb dX5_mentionsOf_5 rfl (lv_at hl 0 rfl) ?_
      refine q_get hx hb hT hown hK hP kw_X5 0 rfl rfl 15 (by decide) kf_X5_87 rfl (v := .int (nI (z 0))) rfl dX5_mentionsOf_6 ?_
      refine lv_icmp_ge (tgt := 33) hx hb dX5_mentionsOf_9 (by decide) (fun c_9 => ?_) (fun c_9 => ?_)
      · have c_9 := nI_le1 (a := z 0) (b := k) (by omega) (by omega) c_9
        refine lv_iload_n hx hb dX5_mentionsOf_33 rfl (lv_at hl 2 rfl) ?_
        exact q_iret hx hb hr hlk (by rw [show k = z 0 by omega]) hP hS dX5_mentionsOf_34
      · have c_9 := nI_le0 (a := z 0) (b := k) (by omega) (by omega) c_9
        refine lv_aload_n hx hb dX5_mentionsOf_12 rfl (lv_at hl 0 rfl) ?_
        refine q_get hx hb hT hown hK hP kw_X5 0 rfl rfl 11 (by decide) kf_X5_59 rfl (v := .ref (ad 72)) rfl dX5_mentionsOf_13 ?_
        refine lv_iload_n hx hb dX5_mentionsOf_16 rfl (lv_at hl 3 rfl) ?_
        refine q_callIS (As := [.int (nI k)]) (r := (g 22) k) (wc := psW cA ad g z) (w1 := psW cA ad g z) (ws1 := rlW cA ad g z) hx hb hml hown hT hK hP hD hS hA (c_X2_ownerOf l D cA ad g z k (show k < 16 by omega)) k_X2_ownerOf kl_X5_164 (q0 := 0) rfl rfl rfl (rl_a cA ad g z ++ yrW cA ad g z) (gpW cA ad g z) (List.append_assoc _ _ _).symm (rl_p rfl rfl rfl) ((psW_adr _ _ _ _).trans (psW_adr _ _ _ _).symm) hl rfl rfl (Nat.le_of_ble_eq_true rfl) ⟨⟨rfl, rfl⟩, Nat.le_of_ble_eq_true rfl, Nat.le_of_ble_eq_true rfl⟩ ⟨Nat.zero_le _, Nat.zero_le _⟩ dX5_mentionsOf_17 (fun H locs hP hD hS => ?_)
        refine lv_iload_n hx hb dX5_mentionsOf_20 rfl (lv_at hl 1 rfl) ?_
        refine lv_icmp_ne (tgt := 27) hx hb dX5_mentionsOf_21 (by decide) (fun c_21 => ?_) (fun c_21 => ?_)
        · have e9_0 : (nI (cntN (g 22) w k)) = (nI (cntN (g 22) w (k + 1))) := by first | with_reducible rfl | (first | rw [cntN_f c_21] | rw [cntN_t c_21])
          have hl9 : lv_has ls 4 [(0, .ref (ad 70)), (1, .int w), (2, .int (nI (cntN (g 22) w (k + 1)))), (3, .int (nI k))] := lv_cast (l := [(0, .ref (ad 70)), (1, .int w), (2, .int (nI (cntN (g 22) w k))), (3, .int (nI k))]) (lv_sub hl [0, 1, 2, 3] rfl) (congrArg (fun v9 : Int32 => ([(0, .ref (ad 70)), (1, .int w), (2, .int v9), (3, .int (nI k))] : List (Nat × Value))) e9_0)
          exact zqJ27  (by omega) _ _ _ hP hD hS hl9
        · refine lv_iinc (v := nI ((cntN (g 22) w k) + 1)) (lv' := [(2, .int (nI ((cntN (g 22) w k) + 1))), (0, .ref (ad 70)), (1, .int w), (3, .int (nI k))]) hx hb dX5_mentionsOf_24 hl (k := 2) rfl (q_inc1 _) (by decide) rfl (fun ls hl => ?_)
          have e9_0 : (nI ((cntN (g 22) w k) + 1)) = (nI (cntN (g 22) w (k + 1))) := by first | with_reducible rfl | (first | rw [cntN_f c_21] | rw [cntN_t c_21])
          have hl9 : lv_has ls 4 [(0, .ref (ad 70)), (1, .int w), (2, .int (nI (cntN (g 22) w (k + 1)))), (3, .int (nI k))] := lv_cast (l := [(0, .ref (ad 70)), (1, .int w), (2, .int (nI ((cntN (g 22) w k) + 1))), (3, .int (nI k))]) (lv_sub hl [1, 2, 0, 3] rfl) (congrArg (fun v9 : Int32 => ([(0, .ref (ad 70)), (1, .int w), (2, .int v9), (3, .int (nI k))] : List (Nat × Value))) e9_0)
          exact zqJ27  (by omega) _ _ _ hP hD hS hl9
  refine lv_iconst (v := nI 0) hx hb dX5_mentionsOf_0 (by decide +kernel) ?_
  refine lv_istore_n (lv' := [(2, .int (nI 0)), (0, .ref (ad 70)), (1, .int w)]) hx hb dX5_mentionsOf_1 rfl hl (by decide) rfl (fun ls hl => ?_)
  refine lv_iconst (v := nI 0) hx hb dX5_mentionsOf_2 (by decide +kernel) ?_
  refine lv_istore_n (lv' := [(3, .int (nI 0)), (2, .int (nI 0)), (0, .ref (ad 70)), (1, .int w)]) hx hb dX5_mentionsOf_3 rfl hl (by decide) rfl (fun ls hl => ?_)
  have e9_0 : (nI 0) = (nI (cntN (g 22) w 0)) := by first | with_reducible rfl | (rfl)
  have hl9 : lv_has ls 4 [(0, .ref (ad 70)), (1, .int w), (2, .int (nI (cntN (g 22) w 0))), (3, .int (nI 0))] := lv_cast (l := [(0, .ref (ad 70)), (1, .int w), (2, .int (nI 0)), (3, .int (nI 0))]) (lv_sub hl [2, 3, 1, 0] rfl) (congrArg (fun v9 : Int32 => ([(0, .ref (ad 70)), (1, .int w), (2, .int v9), (3, .int (nI 0))] : List (Nat × Value))) e9_0)
  exact zqL4 (z 0 + 1) 0 (by omega) (by omega) _ _ _ hP hD hS hl9
abbrev rm_X5_worthOfPair : Room := { frames := 3, cells := 0, slots := 0, locals := 66 }
set_option maxRecDepth 100000 in
set_option maxHeartbeats 4000000 in
theorem c_X5_worthOfPair (l : Launch) (D : va_G) (cA : ClassId) (ad : Nat → Nat) (g : Nat → Nat → Int32) (z : Nat → Nat) (i : Nat) (j : Nat) (hi : i < 16) (hj : j < 16) : q_CI l yX5_worthOfPair [Cond.code yX5_worthOfPair cX5_worthOfPair 3 (some .int)] rm_X5_worthOfPair D cA [.ref (ad 70), .int (nI i), .int (nI j)] (rlW cA ad g z) (wop g i j) (rlW cA ad g z) := by
  refine q_startI RX5 (by decide +kernel) rfl (Nat.le_of_ble_eq_true rfl) ?_
  intro p e s m below meth c A args H locs ls hx hb hr hml hown hT hlk hP hK hD hA hS hl
  have hl : lv_has ls 3 [(0, .ref (ad 70)), (1, .int (nI i)), (2, .int (nI j))] := hl
  refine lv_aload_n hx hb dX5_worthOfPair_0 rfl (lv_at hl 0 rfl) ?_
  refine q_get hx hb hT hown hK hP kw_X5 0 rfl rfl 8 (by decide) kf_X5_43 rfl (v := .ref (ad 62)) rfl dX5_worthOfPair_1 ?_
  refine lv_iload_n hx hb dX5_worthOfPair_4 rfl (lv_at hl 1 rfl) ?_
  refine lv_iload_n hx hb dX5_worthOfPair_5 rfl (lv_at hl 2 rfl) ?_
  refine q_callI (As := [.int (nI i), .int (nI j)]) (r := q_b (hasB (g 10 i) (nI j))) (wc := prW cA (ad 62) (ad 10) (ad 40) 16 (g 10)) (w1 := prW cA (ad 62) (ad 10) (ad 40) 16 (g 10)) (ws1 := rlW cA ad g z) hx hb hml hown hT hK hP hD hS hA (c_X1_hasN l D cA (ad 62) (ad 10) (ad 40) 16 (g 10) i (nI j) (by omega) (by omega)) k_X1_has kl_X5_242 (q0 := 0) rfl rfl rfl [23, 24, 25] rfl rfl rfl rfl hl rfl rfl (Nat.le_of_ble_eq_true rfl) ⟨⟨rfl, rfl⟩, Nat.le_of_ble_eq_true rfl, Nat.le_of_ble_eq_true rfl⟩ ⟨Nat.zero_le _, Nat.zero_le _⟩ dX5_worthOfPair_6 (fun H locs hP hD hS => ?_)
  refine lv_if_ne (tgt := 21) hx hb dX5_worthOfPair_9 (by decide) (fun c_9 => ?_) (fun c_9 => ?_)
  · have c_9 := q_b0n c_9
    refine lv_ldcw (v := (-1000000)) hx hb hown (hT.use kk_X5_296 args) dX5_worthOfPair_21 ?_
    exact q_iret hx hb hr hlk (by rw [wop]; first | rw [if_pos (Or.inl c_9)] | rw [if_pos (Or.inr c_18)]) hP hS dX5_worthOfPair_24
  · have c_9 := q_b0e c_9
    refine lv_aload_n hx hb dX5_worthOfPair_12 rfl (lv_at hl 0 rfl) ?_
    refine lv_iload_n hx hb dX5_worthOfPair_13 rfl (lv_at hl 1 rfl) ?_
    refine lv_iload_n hx hb dX5_worthOfPair_14 rfl (lv_at hl 2 rfl) ?_
    refine q_callIW (As := [.int (nI i), .int (nI j)]) (r := q_b (hof ((g 1) i) ((g 1) j))) (w1 := rlW cA ad g z) hx hb hml hown hT hK hP hD hS hA (c_X5_haveOtherFamilies l D cA ad g z i j (show i < 16 by omega) (show j < 16 by omega)) k_X5_haveOtherFamilies kl_X5_260 (q0 := 0) rfl rfl rfl ((rlW_adr _ _ _ _).trans (rlW_adr _ _ _ _).symm) hl rfl rfl (Nat.le_of_ble_eq_true rfl) ⟨⟨rfl, rfl⟩, Nat.le_of_ble_eq_true rfl, Nat.le_of_ble_eq_true rfl⟩ ⟨Nat.zero_le _, Nat.zero_le _⟩ dX5_worthOfPair_15 (fun H locs hP hD hS => ?_)
    refine lv_if_eq (tgt := 25) hx hb dX5_worthOfPair_18 (by decide) (fun c_18 => ?_) (fun c_18 => ?_)
    · have c_18 := q_b0e c_18
      refine lv_aload_n hx hb dX5_worthOfPair_25 rfl (lv_at hl 0 rfl) ?_
      refine lv_iload_n hx hb dX5_worthOfPair_26 rfl (lv_at hl 1 rfl) ?_
      refine lv_iload_n hx hb dX5_worthOfPair_27 rfl (lv_at hl 2 rfl) ?_
      refine q_callIW (As := [.int (nI i), .int (nI j)]) (r := nI (wtN g i j)) (w1 := rlW cA ad g z) hx hb hml hown hT hK hP hD hS hA (c_X5_weightOf l D cA ad g z i j (show i < 16 by omega) (show j < 16 by omega)) k_X5_weightOf kl_X5_155 (q0 := 0) rfl rfl rfl ((rlW_adr _ _ _ _).trans (rlW_adr _ _ _ _).symm) hl rfl rfl (Nat.le_of_ble_eq_true rfl) ⟨⟨rfl, rfl⟩, Nat.le_of_ble_eq_true rfl, Nat.le_of_ble_eq_true rfl⟩ ⟨Nat.zero_le _, Nat.zero_le _⟩ dX5_worthOfPair_28 (fun H locs hP hD hS => ?_)
      refine lv_iconst (v := nI 3) hx hb dX5_worthOfPair_31 (by decide +kernel) ?_
      refine lv_isub hx hb dX5_worthOfPair_32 ?_
      exact q_iret hx hb hr hlk (by rw [wop, if_neg (fun h => by rcases h with h | h; rw [c_9] at h; cases h; rw [c_18] at h; cases h)]) hP hS dX5_worthOfPair_33
    · have c_18 := q_b0n c_18
      refine lv_ldcw (v := (-1000000)) hx hb hown (hT.use kk_X5_296 args) dX5_worthOfPair_21 ?_
      exact q_iret hx hb hr hlk (by rw [wop]; first | rw [if_pos (Or.inl c_9)] | rw [if_pos (Or.inr c_18)]) hP hS dX5_worthOfPair_24
