/-! one pass over the first k tellings: first years go up, last years go down; both apart -/
def psF (a b w F : Nat → Int32) : Nat → Nat → Int32
  | 0 => F
  | k + 1 => if psF a b w F k (q_n (b k)) < psF a b w F k (q_n (a k)) + w k then upd (psF a b w F k) (q_n (b k)) (psF a b w F k (q_n (a k)) + w k) else psF a b w F k
def psL (a b w L : Nat → Int32) : Nat → Nat → Int32
  | 0 => L
  | k + 1 => if psL a b w L k (q_n (b k)) - w k < psL a b w L k (q_n (a k)) then upd (psL a b w L k) (q_n (a k)) (psL a b w L k (q_n (b k)) - w k) else psL a b w L k
/-- whether something was pushed -/
def psC (a b w F L : Nat → Int32) : Nat → Bool
  | 0 => false
  | k + 1 => psC a b w F L k || decide (psF a b w F k (q_n (b k)) < psF a b w F k (q_n (a k)) + w k) || decide (psL a b w L k (q_n (b k)) - w k < psL a b w L k (q_n (a k)))
/-- so many passes -/
def itF (a b w F : Nat → Int32) (t : Nat) : Nat → Nat → Int32
  | 0 => F
  | r + 1 => psF a b w (itF a b w F t r) t
def itL (a b w L : Nat → Int32) (t : Nat) : Nat → Nat → Int32
  | 0 => L
  | r + 1 => psL a b w (itL a b w L t r) t
def itC (a b w F L : Nat → Int32) (t : Nat) (r : Nat) : Bool := psC a b w (itF a b w F t r) (itL a b w L t r) t
theorem psF_t {a b w F : Nat → Int32} {k : Nat} (h : psF a b w F k (q_n (b k)) < psF a b w F k (q_n (a k)) + w k) : upd (psF a b w F k) (q_n (b k)) (psF a b w F k (q_n (a k)) + w k) = psF a b w F (k + 1) := by rw [psF, if_pos h]
theorem psF_f {a b w F : Nat → Int32} {k : Nat} (h : ¬ psF a b w F k (q_n (b k)) < psF a b w F k (q_n (a k)) + w k) : psF a b w F k = psF a b w F (k + 1) := by rw [psF, if_neg h]
theorem psL_t {a b w L : Nat → Int32} {k : Nat} (h : psL a b w L k (q_n (b k)) - w k < psL a b w L k (q_n (a k))) : upd (psL a b w L k) (q_n (a k)) (psL a b w L k (q_n (b k)) - w k) = psL a b w L (k + 1) := by rw [psL, if_pos h]
theorem psL_f {a b w L : Nat → Int32} {k : Nat} (h : ¬ psL a b w L k (q_n (b k)) - w k < psL a b w L k (q_n (a k))) : psL a b w L k = psL a b w L (k + 1) := by rw [psL, if_neg h]
/-- a pass without a push moves nothing -/
theorem ps_0 (a b w F L : Nat → Int32) : ∀ k, psC a b w F L k = false → psF a b w F k = F ∧ psL a b w L k = L
  | 0, _ => ⟨rfl, rfl⟩
  | k + 1, h => by
    simp only [psC, Bool.or_eq_false_iff, decide_eq_false_iff_not] at h
    obtain ⟨h1, h2⟩ := ps_0 a b w F L k h.1.1
    exact ⟨by rw [psF, if_neg h.1.2, h1], by rw [psL, if_neg h.2, h2]⟩
theorem it_0 {a b w F L : Nat → Int32} {t r : Nat} (h : itC a b w F L t r = false) : ∀ m, itF a b w F t (r + m) = itF a b w F t r ∧ itL a b w L t (r + m) = itL a b w L t r
  | 0 => ⟨rfl, rfl⟩
  | m + 1 => by
    obtain ⟨h1, h2⟩ := it_0 h m
    obtain ⟨h3, h4⟩ := ps_0 _ _ _ _ _ t h
    refine ⟨?_, ?_⟩
    · show psF a b w (itF a b w F t (r + m)) t = _
      rw [h1, h3]
    · show psL a b w (itL a b w L t (r + m)) t = _
      rw [h2, h4]
theorem it_16 {a b w F L : Nat → Int32} {t r : Nat} (h : itC a b w F L t r = false) (hr : r < 16) : itF a b w F t (r + 1) = itF a b w F t 16 ∧ itL a b w L t (r + 1) = itL a b w L t 16 := by
  obtain ⟨h1, h2⟩ := it_0 h (16 - r)
  obtain ⟨h3, h4⟩ := it_0 h 1
  rw [show r + (16 - r) = 16 by omega] at h1 h2
  exact ⟨by rw [h3, h1], by rw [h4, h2]⟩
/-- it comes to rest within sixteen passes -/
def itR (a b w F L : Nat → Int32) (t : Nat) : Bool := decide (∃ r, r < 16 ∧ itC a b w F L t r = false)
theorem itR_t {a b w F L : Nat → Int32} {t r : Nat} (hr : r < 16) (h : itC a b w F L t r = false) : itR a b w F L t = true := decide_eq_true ⟨r, hr, h⟩
theorem itR_f {a b w F L : Nat → Int32} {t : Nat} (h : ∀ r, r < 16 → itC a b w F L t r = true) : itR a b w F L t = false := decide_eq_false (fun ⟨r, h1, h2⟩ => by rw [h r h1] at h2; cases h2)
/-- first years are not above last years, in the first k -/
def leB (F L : Nat → Int32) (k : Nat) : Bool := decide (∀ j, j < k → F j ≤ L j)
theorem leB_t {F L : Nat → Int32} {k : Nat} (h : ∀ j, j < k → F j ≤ L j) : leB F L k = true := decide_eq_true h
theorem leB_f {F L : Nat → Int32} {k j : Nat} (hj : j < k) (h : ¬ F j ≤ L j) : leB F L k = false := decide_eq_false (fun z => h (z j hj))
/-- how many are moved, of the first k -/
def mvd (F L F0 L0 : Nat → Int32) : Nat → Nat
  | 0 => 0
  | k + 1 => if F k = F0 k ∧ L k = L0 k then mvd F L F0 L0 k else mvd F L F0 L0 k + 1
theorem mvd_le (F L F0 L0 : Nat → Int32) : ∀ k, mvd F L F0 L0 k ≤ k
  | 0 => Nat.le_refl 0
  | k + 1 => by
    have := mvd_le F L F0 L0 k
    simp only [mvd]
    split <;> omega
theorem mvd_s {F L F0 L0 : Nat → Int32} {k : Nat} (h : F k = F0 k) (h2 : L k = L0 k) : mvd F L F0 L0 k = mvd F L F0 L0 (k + 1) := by rw [mvd, if_pos ⟨h, h2⟩]
theorem mvd_n {F L F0 L0 : Nat → Int32} {k : Nat} (h : ¬ (F k = F0 k ∧ L k = L0 k)) : mvd F L F0 L0 k + 1 = mvd F L F0 L0 (k + 1) := by rw [mvd, if_neg h]
theorem q_nlt3 {x y : Int32} (h : x ≤ y) : ¬ y < x := by
  rw [Int32.le_iff_toInt_le] at h
  rw [Int32.lt_iff_toInt_lt]
  omega
theorem q_lt3 {x y : Int32} (h : ¬ x ≤ y) : y < x := by
  rw [Int32.le_iff_toInt_le] at h
  rw [Int32.lt_iff_toInt_lt]
  omega
abbrev rm_X4_isFullyTold : Room := { frames := 0, cells := 0, slots := 0, locals := 0 }
set_option maxRecDepth 100000 in
set_option maxHeartbeats 4000000 in
theorem c_X4_isFullyTold (l : Launch) (D : va_G) (cA : ClassId) (ad : Nat → Nat) (g : Nat → Nat → Int32) (z : Nat → Nat)  (ht : (z 1) ≤ 40) : q_CI l yX4_isFullyTold [Cond.code yX4_isFullyTold cX4_isFullyTold 1 (some .boolean)] rm_X4_isFullyTold D cA [.ref (ad 71)] (yrW cA ad g z) (q_b (decide (40 ≤ (z 1)))) (yrW cA ad g z) := by
  refine q_startI RX4 (by decide +kernel) rfl (Nat.le_of_ble_eq_true rfl) ?_
  intro p e s m below meth c A args H locs ls hx hb hr hml hown hT hlk hP hK hD hA hS hl
  have hl : lv_has ls 1 [(0, .ref (ad 71))] := hl
  refine lv_aload_n hx hb dX4_isFullyTold_0 rfl (lv_at hl 0 rfl) ?_
  refine q_get hx hb hT hown hK hP kw_X4 0 rfl rfl 10 (by decide) kf_X4_50 rfl (v := .int (nI (z 1))) rfl dX4_isFullyTold_1 ?_
  refine lv_bipush (v := nI 40) hx hb dX4_isFullyTold_4 (by decide +kernel) ?_
  refine lv_icmp_lt (tgt := 13) hx hb dX4_isFullyTold_6 (by decide) (fun c_6 => ?_) (fun c_6 => ?_)
  · have c_6 := nI_lt1 (a := z 1) (b := 40) (by omega) (by omega) c_6
    refine lv_iconst (v := nI 0) hx hb dX4_isFullyTold_13 (by decide +kernel) ?_
    exact q_zret hx hb hr hlk (Or.inl rfl) (by first | exact q_bt (decide_eq_true c_6) | exact q_bf (decide_eq_false (by omega))) hP hS dX4_isFullyTold_14
  · have c_6 := nI_lt0 (a := z 1) (b := 40) (by omega) (by omega) c_6
    refine lv_iconst (v := nI 1) hx hb dX4_isFullyTold_9 (by decide +kernel) ?_
    refine lv_goto (tgt := 14) hx hb dX4_isFullyTold_10 (by decide) ?_
    exact q_zret hx hb hr hlk (Or.inr rfl) (by first | exact q_bt (decide_eq_true c_6) | exact q_bf (decide_eq_false (by omega))) hP hS dX4_isFullyTold_14
abbrev rm_X4_firstOf : Room := { frames := 1, cells := 0, slots := 0, locals := 21 }
set_option maxRecDepth 100000 in
set_option maxHeartbeats 4000000 in
theorem c_X4_firstOf (l : Launch) (D : va_G) (cA : ClassId) (ad : Nat → Nat) (g : Nat → Nat → Int32) (z : Nat → Nat) (k : Nat) (hk : k < 16) : q_CI l yX4_firstOf [Cond.code yX4_firstOf cX4_firstOf 2 (some .int)] rm_X4_firstOf D cA [.ref (ad 71), .int (nI k)] (yrW cA ad g z) ((g 17) k) (yrW cA ad g z) := by
  refine q_startI RX4 (by decide +kernel) rfl (Nat.le_of_ble_eq_true rfl) ?_
  intro p e s m below meth c A args H locs ls hx hb hr hml hown hT hlk hP hK hD hA hS hl
  have hl : lv_has ls 2 [(0, .ref (ad 71)), (1, .int (nI k))] := hl
  refine lv_aload_n hx hb dX4_firstOf_0 rfl (lv_at hl 0 rfl) ?_
  refine q_get hx hb hT hown hK hP kw_X4 0 rfl rfl 5 (by decide) kf_X4_32 rfl (v := .ref (ad 17)) rfl dX4_firstOf_1 ?_
  refine lv_iload_n hx hb dX4_firstOf_4 rfl (lv_at hl 1 rfl) ?_
  refine q_callI (As := [.int (nI k)]) (r := g 17 k) (wc := rowW cA (ad 17) (ad 47) 16 (g 17)) (w1 := rowW cA (ad 17) (ad 47) 16 (g 17)) (ws1 := yrW cA ad g z) hx hb hml hown hT hK hP hD hS hA (c_X3_atN l D cA (ad 17) (ad 47) 16 (g 17) k (by omega) (by omega)) k_X3_at kl_X4_54 (q0 := 0) rfl rfl rfl [11, 12] rfl rfl rfl rfl hl rfl rfl (Nat.le_of_ble_eq_true rfl) ⟨⟨rfl, rfl⟩, Nat.le_of_ble_eq_true rfl, Nat.le_of_ble_eq_true rfl⟩ ⟨Nat.zero_le _, Nat.zero_le _⟩ dX4_firstOf_5 (fun H locs hP hD hS => ?_)
  exact q_iret hx hb hr hlk (by rfl) hP hS dX4_firstOf_8
abbrev rm_X4_lastOf : Room := { frames := 1, cells := 0, slots := 0, locals := 21 }
set_option maxRecDepth 100000 in
set_option maxHeartbeats 4000000 in
theorem c_X4_lastOf (l : Launch) (D : va_G) (cA : ClassId) (ad : Nat → Nat) (g : Nat → Nat → Int32) (z : Nat → Nat) (k : Nat) (hk : k < 16) : q_CI l yX4_lastOf [Cond.code yX4_lastOf cX4_lastOf 2 (some .int)] rm_X4_lastOf D cA [.ref (ad 71), .int (nI k)] (yrW cA ad g z) ((g 18) k) (yrW cA ad g z) := by
  refine q_startI RX4 (by decide +kernel) rfl (Nat.le_of_ble_eq_true rfl) ?_
  intro p e s m below meth c A args H locs ls hx hb hr hml hown hT hlk hP hK hD hA hS hl
  have hl : lv_has ls 2 [(0, .ref (ad 71)), (1, .int (nI k))] := hl
  refine lv_aload_n hx hb dX4_lastOf_0 rfl (lv_at hl 0 rfl) ?_
  refine q_get hx hb hT hown hK hP kw_X4 0 rfl rfl 6 (by decide) kf_X4_35 rfl (v := .ref (ad 18)) rfl dX4_lastOf_1 ?_
  refine lv_iload_n hx hb dX4_lastOf_4 rfl (lv_at hl 1 rfl) ?_
  refine q_callI (As := [.int (nI k)]) (r := g 18 k) (wc := rowW cA (ad 18) (ad 48) 16 (g 18)) (w1 := rowW cA (ad 18) (ad 48) 16 (g 18)) (ws1 := yrW cA ad g z) hx hb hml hown hT hK hP hD hS hA (c_X3_atN l D cA (ad 18) (ad 48) 16 (g 18) k (by omega) (by omega)) k_X3_at kl_X4_54 (q0 := 0) rfl rfl rfl [13, 14] rfl rfl rfl rfl hl rfl rfl (Nat.le_of_ble_eq_true rfl) ⟨⟨rfl, rfl⟩, Nat.le_of_ble_eq_true rfl, Nat.le_of_ble_eq_true rfl⟩ ⟨Nat.zero_le _, Nat.zero_le _⟩ dX4_lastOf_5 (fun H locs hP hD hS => ?_)
  exact q_iret hx hb hr hlk (by rfl) hP hS dX4_lastOf_8
abbrev rm_X4_isCertain : Room := { frames := 1, cells := 0, slots := 0, locals := 21 }
set_option maxRecDepth 100000 in
set_option maxHeartbeats 4000000 in
theorem c_X4_isCertain (l : Launch) (D : va_G) (cA : ClassId) (ad : Nat → Nat) (g : Nat → Nat → Int32) (z : Nat → Nat) (k : Nat) (hk : k < 16) : q_CI l yX4_isCertain [Cond.code yX4_isCertain cX4_isCertain 2 (some .boolean)] rm_X4_isCertain D cA [.ref (ad 71), .int (nI k)] (yrW cA ad g z) (q_b (decide ((g 17) k = (g 18) k))) (yrW cA ad g z) := by
  refine q_startI RX4 (by decide +kernel) rfl (Nat.le_of_ble_eq_true rfl) ?_
  intro p e s m below meth c A args H locs ls hx hb hr hml hown hT hlk hP hK hD hA hS hl
  have hl : lv_has ls 2 [(0, .ref (ad 71)), (1, .int (nI k))] := hl
  refine lv_aload_n hx hb dX4_isCertain_0 rfl (lv_at hl 0 rfl) ?_
  refine q_get hx hb hT hown hK hP kw_X4 0 rfl rfl 5 (by decide) kf_X4_32 rfl (v := .ref (ad 17)) rfl dX4_isCertain_1 ?_
  refine lv_iload_n hx hb dX4_isCertain_4 rfl (lv_at hl 1 rfl) ?_
  refine q_callI (As := [.int (nI k)]) (r := g 17 k) (wc := rowW cA (ad 17) (ad 47) 16 (g 17)) (w1 := rowW cA (ad 17) (ad 47) 16 (g 17)) (ws1 := yrW cA ad g z) hx hb hml hown hT hK hP hD hS hA (c_X3_atN l D cA (ad 17) (ad 47) 16 (g 17) k (by omega) (by omega)) k_X3_at kl_X4_54 (q0 := 0) rfl rfl rfl [11, 12] rfl rfl rfl rfl hl rfl rfl (Nat.le_of_ble_eq_true rfl) ⟨⟨rfl, rfl⟩, Nat.le_of_ble_eq_true rfl, Nat.le_of_ble_eq_true rfl⟩ ⟨Nat.zero_le _, Nat.zero_le _⟩ dX4_isCertain_5 (fun H locs hP hD hS => ?_)
  refine lv_aload_n hx hb dX4_isCertain_8 rfl (lv_at hl 0 rfl) ?_
  refine q_get hx hb hT hown hK hP kw_X4 0 rfl rfl 6 (by decide) kf_X4_35 rfl (v := .ref (ad 18)) rfl dX4_isCertain_9 ?_
  refine lv_iload_n hx hb dX4_isCertain_12 rfl (lv_at hl 1 rfl) ?_
  refine q_callI (As := [.int (nI k)]) (r := g 18 k) (wc := rowW cA (ad 18) (ad 48) 16 (g 18)) (w1 := rowW cA (ad 18) (ad 48) 16 (g 18)) (ws1 := yrW cA ad g z) hx hb hml hown hT hK hP hD hS hA (c_X3_atN l D cA (ad 18) (ad 48) 16 (g 18) k (by omega) (by omega)) k_X3_at kl_X4_54 (q0 := 0) rfl rfl rfl [13, 14] rfl rfl rfl rfl hl rfl rfl (Nat.le_of_ble_eq_true rfl) ⟨⟨rfl, rfl⟩, Nat.le_of_ble_eq_true rfl, Nat.le_of_ble_eq_true rfl⟩ ⟨Nat.zero_le _, Nat.zero_le _⟩ dX4_isCertain_13 (fun H locs hP hD hS => ?_)
  refine lv_icmp_ne (tgt := 23) hx hb dX4_isCertain_16 (by decide) (fun c_16 => ?_) (fun c_16 => ?_)
  · refine lv_iconst (v := nI 0) hx hb dX4_isCertain_23 (by decide +kernel) ?_
    exact q_zret hx hb hr hlk (Or.inl rfl) (by first | exact q_bt (decide_eq_true c_16) | exact q_bf (decide_eq_false c_16)) hP hS dX4_isCertain_24
  · refine lv_iconst (v := nI 1) hx hb dX4_isCertain_19 (by decide +kernel) ?_
    refine lv_goto (tgt := 24) hx hb dX4_isCertain_20 (by decide) ?_
    exact q_zret hx hb hr hlk (Or.inr rfl) (by first | exact q_bt (decide_eq_true c_16) | exact q_bf (decide_eq_false c_16)) hP hS dX4_isCertain_24
abbrev rm_X4_pushAll : Room := { frames := 1, cells := 0, slots := 0, locals := 22 }
set_option maxRecDepth 100000 in
set_option maxHeartbeats 4000000 in
theorem c_X4_pushAll (l : Launch) (D : va_G) (cA : ClassId) (ad : Nat → Nat) (g : Nat → Nat → Int32) (z : Nat → Nat)  (hE : ∀ k, k < (z 1) → q_r ((g 14) k) 16 ∧ q_r ((g 15) k) 16) (ht : (z 1) ≤ 40) : q_CI l yX4_pushAll [Cond.code yX4_pushAll cX4_pushAll 7 (some .boolean)] rm_X4_pushAll D cA [.ref (ad 71)] (yrW cA ad g z) (q_b (psC (g 14) (g 15) (g 16) (g 19) (g 20) (z 1))) (yrW cA ad (gs (gs g 19 (psF (g 14) (g 15) (g 16) (g 19) (z 1))) 20 (psL (g 14) (g 15) (g 16) (g 20) (z 1))) z) := by
  refine q_startI RX4 (by decide +kernel) rfl (Nat.le_of_ble_eq_true rfl) ?_
  intro p e s m below meth c A args H locs ls hx hb hr hml hown hT hlk hP hK hD hA hS hl
  have hl : lv_has ls 7 [(0, .ref (ad 71))] := hl
  have L4 : ∀ (fu : Nat), ∀ (k : Nat), (z 1 + 1 ≤ k + fu) → (k ≤ (z 1)) → ∀ (H : Heap) (locs : List Loc) (ls : Array Slot), va_P D vwCl (yrW cA ad (gs (gs g 19 (psF (g 14) (g 15) (g 16) (g 19) k)) 20 (psL (g 14) (g 15) (g 16) (g 20) k)) z) H → va_D A (yrW cA ad (gs (gs g 19 (psF (g 14) (g 15) (g 16) (g 19) k)) 20 (psL (g 14) (g 15) (g 16) (g 20) k)) z) → va_S A s.heap H locs → lv_has ls 7 [(0, .ref (ad 71)), (1, .int (q_b (psC (g 14) (g 15) (g 16) (g 19) (g 20) k))), (2, .int (nI k))] → W p l e rm_X4_pushAll s m args below meth c H locs 0 0 (q_GI D (q_b (psC (g 14) (g 15) (g 16) (g 19) (g 20) (z 1))) (yrW cA ad (gs (gs g 19 (psF (g 14) (g 15) (g 16) (g 19) (z 1))) 20 (psL (g 14) (g 15) (g 16) (g 20) (z 1))) z) A below args s) (F0 m 4 ls []) := by
    intro fu
    induction fu with
    | zero =>
      intro k hfu hk H locs ls hP hD hS hl
      exfalso; omega
    | succ fu ih4 =>
      intro k hfu hk H locs ls hP hD hS hl
      have J122 : ∀ (H : Heap) (locs : List Loc) (ls : Array Slot), va_P D vwCl (yrW cA ad (gs (gs g 19 (psF (g 14) (g 15) (g 16) (g 19) (k + 1))) 20 (psL (g 14) (g 15) (g 16) (g 20) (k + 1))) z) H → va_D A (yrW cA ad (gs (gs g 19 (psF (g 14) (g 15) (g 16) (g 19) (k + 1))) 20 (psL (g 14) (g 15) (g 16) (g 20) (k + 1))) z) → va_S A s.heap H locs → lv_has ls 7 [(0, .ref (ad 71)), (1, .int (q_b (psC (g 14) (g 15) (g 16) (g 19) (g 20) k || decide (psF (g 14) (g 15) (g 16) (g 19) k (q_n ((g 15) k)) < psF (g 14) (g 15) (g 16) (g 19) k (q_n ((g 14) k)) + (g 16) k) || decide (psL (g 14) (g 15) (g 16) (g 20) k (q_n ((g 15) k)) - (g 16) k < psL (g 14) (g 15) (g 16) (g 20) k (q_n ((g 14) k)))))), (2, .int (nI k))] → W p l e rm_X4_pushAll s m args below meth c H locs 0 0 (q_GI D (q_b (psC (g 14) (g 15) (g 16) (g 19) (g 20) (z 1))) (yrW cA ad (gs (gs g 19 (psF (g 14) (g 15) (g 16) (g 19) (z 1))) 20 (psL (g 14) (g 15) (g 16) (g 20) (z 1))) z) A below args s) (F0 m 122 ls []) := by
        intro   H locs ls hP hD hS hl
        refine lv_iinc (v := nI (k + 1)) (lv' := [(2, .int (nI (k + 1))), (0, .ref (ad 71)), (1, .int (q_b (psC (g 14) (g 15) (g 16) (g 19) (g 20) k || decide (psF (g 14) (g 15) (g 16) (g 19) k (q_n ((g 15) k)) < psF (g 14) (g 15) (g 16) (g 19) k (q_n ((g 14) k)) + (g 16) k) || decide (psL (g 14) (g 15) (g 16) (g 20) k (q_n ((g 15) k)) - (g 16) k < psL (g 14) (g 15) (g 16) (g 20) k (q_n ((g 14) k))))))]) hx hb dX4_pushAll_122 hl (k := 2) rfl (q_inc1 _) (by decide) rfl (fun ls hl => ?_)
        refine lv_goto (tgt := 4) hx hb dX4_pushAll_125 (by decide) ?_
        have hl9 : lv_has ls 7 [(0, .ref (ad 71)), (1, .int (q_b (psC (g 14) (g 15) (g 16) (g 19) (g 20) (k + 1)))), (2, .int (nI (k + 1)))] := lv_cast (l := [(0, .ref (ad 71)), (1, .int (q_b (psC (g 14) (g 15) (g 16) (g 19) (g 20) k || decide (psF (g 14) (g 15) (g 16) (g 19) k (q_n ((g 15) k)) < psF (g 14) (g 15) (g 16) (g 19) k (q_n ((g 14) k)) + (g 16) k) || decide (psL (g 14) (g 15) (g 16) (g 20) k (q_n ((g 15) k)) - (g 16) k < psL (g 14) (g 15) (g 16) (g 20) k (q_n ((g 14) k)))))), (2, .int (nI (k + 1)))]) (lv_sub hl [1, 2, 0] rfl) (by
          have e9 : (q_b (psC (g 14) (g 15) (g 16) (g 19) (g 20) k || decide (psF (g 14) (g 15) (g 16) (g 19) k (q_n ((g 15) k)) < psF (g 14) (g 15) (g 16) (g 19) k (q_n ((g 14) k)) + (g 16) k) || decide (psL (g 14) (g 15) (g 16) (g 20) k (q_n ((g 15) k)) - (g 16) k < psL (g 14) (g 15) (g 16) (g 20) k (q_n ((g 14) k))))) = (q_b (psC (g 14) (g 15) (g 16) (g 19) (g 20) (k + 1))) := by rfl
          rw [e9])
        exact L4 (z 1 + 1) (k + 1) (by omega) (by omega) _ _ _ hP hD hS hl9
      have J97 : ∀ (H : Heap) (locs : List Loc) (ls : Array Slot), va_P D vwCl (yrW cA ad (gs (gs g 19 (psF (g 14) (g 15) (g 16) (g 19) (k + 1))) 20 (psL (g 14) (g 15) (g 16) (g 20) k)) z) H → va_D A (yrW cA ad (gs (gs g 19 (psF (g 14) (g 15) (g 16) (g 19) (k + 1))) 20 (psL (g 14) (g 15) (g 16) (g 20) k)) z) → va_S A s.heap H locs → lv_has ls 7 [(0, .ref (ad 71)), (1, .int (q_b (psC (g 14) (g 15) (g 16) (g 19) (g 20) k || decide (psF (g 14) (g 15) (g 16) (g 19) k (q_n ((g 15) k)) < psF (g 14) (g 15) (g 16) (g 19) k (q_n ((g 14) k)) + (g 16) k)))), (2, .int (nI k)), (3, .int (nI (q_n ((g 14) k)))), (4, .int (nI (q_n ((g 15) k)))), (6, .int (psL (g 14) (g 15) (g 16) (g 20) k (q_n ((g 15) k)) - (g 16) k))] → W p l e rm_X4_pushAll s m args below meth c H locs 0 0 (q_GI D (q_b (psC (g 14) (g 15) (g 16) (g 19) (g 20) (z 1))) (yrW cA ad (gs (gs g 19 (psF (g 14) (g 15) (g 16) (g 19) (z 1))) 20 (psL (g 14) (g 15) (g 16) (g 20) (z 1))) z) A below args s) (F0 m 97 ls []) := by
        intro   H locs ls hP hD hS hl
        refine lv_iload hx hb dX4_pushAll_97 (lv_at hl 5 rfl) ?_
        refine lv_aload_n hx hb dX4_pushAll_99 rfl (lv_at hl 0 rfl) ?_
        refine q_get hx hb hT hown hK hP kw_X4 0 rfl rfl 8 (by decide) kf_X4_41 rfl (v := .ref (ad 20)) rfl dX4_pushAll_100 ?_
        refine lv_iload_n hx hb dX4_pushAll_103 rfl (lv_at hl 3 rfl) ?_
        refine q_callI (As := [.int (nI (q_n ((g 14) k)))]) (r := (psL (g 14) (g 15) (g 16) (g 20) k) (q_n ((g 14) k))) (wc := rowW cA (ad 20) (ad 50) 16 (psL (g 14) (g 15) (g 16) (g 20) k)) (w1 := rowW cA (ad 20) (ad 50) 16 (psL (g 14) (g 15) (g 16) (g 20) k)) (ws1 := yrW cA ad (gs (gs g 19 (psF (g 14) (g 15) (g 16) (g 19) (k + 1))) 20 (psL (g 14) (g 15) (g 16) (g 20) k)) z) hx hb hml hown hT hK hP hD hS hA (c_X3_atN l D cA (ad 20) (ad 50) 16 (psL (g 14) (g 15) (g 16) (g 20) k) (q_n ((g 14) k)) ((hE k (by omega)).1.lt (by omega)) (by omega)) k_X3_at kl_X4_54 (q0 := 0) rfl rfl rfl [17, 18] rfl rfl rfl rfl hl rfl rfl (Nat.le_of_ble_eq_true rfl) ⟨⟨rfl, rfl⟩, Nat.le_of_ble_eq_true rfl, Nat.le_of_ble_eq_true rfl⟩ ⟨Nat.zero_le _, Nat.zero_le _⟩ dX4_pushAll_104 (fun H locs hP hD hS => ?_)
        refine lv_icmp_ge (tgt := 122) hx hb dX4_pushAll_107 (by decide) (fun c_107 => ?_) (fun c_107 => ?_)
        · have d_107 := q_nlt3 c_107
          have hl9 : lv_has ls 7 [(0, .ref (ad 71)), (1, .int (q_b (psC (g 14) (g 15) (g 16) (g 19) (g 20) k || decide (psF (g 14) (g 15) (g 16) (g 19) k (q_n ((g 15) k)) < psF (g 14) (g 15) (g 16) (g 19) k (q_n ((g 14) k)) + (g 16) k) || decide (psL (g 14) (g 15) (g 16) (g 20) k (q_n ((g 15) k)) - (g 16) k < psL (g 14) (g 15) (g 16) (g 20) k (q_n ((g 14) k)))))), (2, .int (nI k))] := lv_cast (l := [(0, .ref (ad 71)), (1, .int (q_b (psC (g 14) (g 15) (g 16) (g 19) (g 20) k || decide (psF (g 14) (g 15) (g 16) (g 19) k (q_n ((g 15) k)) < psF (g 14) (g 15) (g 16) (g 19) k (q_n ((g 14) k)) + (g 16) k)))), (2, .int (nI k))]) (lv_sub hl [0, 1, 2] rfl) (by
            have e9 : (q_b (psC (g 14) (g 15) (g 16) (g 19) (g 20) k || decide (psF (g 14) (g 15) (g 16) (g 19) k (q_n ((g 15) k)) < psF (g 14) (g 15) (g 16) (g 19) k (q_n ((g 14) k)) + (g 16) k))) = (q_b (psC (g 14) (g 15) (g 16) (g 19) (g 20) k || decide (psF (g 14) (g 15) (g 16) (g 19) k (q_n ((g 15) k)) < psF (g 14) (g 15) (g 16) (g 19) k (q_n ((g 14) k)) + (g 16) k) || decide (psL (g 14) (g 15) (g 16) (g 20) k (q_n ((g 15) k)) - (g 16) k < psL (g 14) (g 15) (g 16) (g 20) k (q_n ((g 14) k))))) := by rw [decide_eq_false d_107, Bool.or_false]
            rw [e9])
          have ew9 : (yrW cA ad (gs (gs g 19 (psF (g 14) (g 15) (g 16) (g 19) (k + 1))) 20 (psL (g 14) (g 15) (g 16) (g 20) k)) z) = (yrW cA ad (gs (gs g 19 (psF (g 14) (g 15) (g 16) (g 19) (k + 1))) 20 (psL (g 14) (g 15) (g 16) (g 20) (k + 1))) z) := by rw [psL_f d_107]
          have hP : va_P D vwCl (yrW cA ad (gs (gs g 19 (psF (g 14) (g 15) (g 16) (g 19) (k + 1))) 20 (psL (g 14) (g 15) (g 16) (g 20) (k + 1))) z) H := va_cast' hP ew9
          have hD : va_D A (yrW cA ad (gs (gs g 19 (psF (g 14) (g 15) (g 16) (g 19) (k + 1))) 20 (psL (g 14) (g 15) (g 16) (g 20) (k + 1))) z) := va_castD hD ew9
          exact J122   _ _ _ hP hD hS hl9
        · have d_107 := q_lt3 c_107
          refine lv_aload_n hx hb dX4_pushAll_110 rfl (lv_at hl 0 rfl) ?_
          refine q_get hx hb hT hown hK hP kw_X4 0 rfl rfl 8 (by decide) kf_X4_41 rfl (v := .ref (ad 20)) rfl dX4_pushAll_111 ?_
          refine lv_iload_n hx hb dX4_pushAll_114 rfl (lv_at hl 3 rfl) ?_
          refine lv_iload hx hb dX4_pushAll_115 (lv_at hl 5 rfl) ?_
          refine q_callV (As := [.int (nI (q_n ((g 14) k))), .int (psL (g 14) (g 15) (g 16) (g 20) k (q_n ((g 15) k)) - (g 16) k)]) (wc := rowW cA (ad 20) (ad 50) 16 (psL (g 14) (g 15) (g 16) (g 20) k)) (w1 := rowW cA (ad 20) (ad 50) 16 (upd (psL (g 14) (g 15) (g 16) (g 20) k) (q_n ((g 14) k)) (psL (g 14) (g 15) (g 16) (g 20) k (q_n ((g 15) k)) - (g 16) k))) (ws1 := yrW cA ad (gs (gs g 19 (psF (g 14) (g 15) (g 16) (g 19) (k + 1))) 20 (upd (psL (g 14) (g 15) (g 16) (g 20) k) (q_n ((g 14) k)) (psL (g 14) (g 15) (g 16) (g 20) k (q_n ((g 15) k)) - (g 16) k))) z) hx hb hml hown hT hK hP hD hS hA (c_X3_putN l D cA (ad 20) (ad 50) 16 (psL (g 14) (g 15) (g 16) (g 20) k) (q_n ((g 14) k)) (psL (g 14) (g 15) (g 16) (g 20) k (q_n ((g 15) k)) - (g 16) k) ((hE k (by omega)).1.lt (by omega)) (by omega)) k_X3_put kl_X4_58 (q0 := 0) rfl rfl rfl [17, 18] rfl rfl rfl rfl hl rfl rfl (Nat.le_of_ble_eq_true rfl) ⟨⟨rfl, rfl⟩, Nat.le_of_ble_eq_true rfl, Nat.le_of_ble_eq_true rfl⟩ ⟨Nat.zero_le _, Nat.zero_le _⟩ dX4_pushAll_117 (fun H locs hP hD hS => ?_)
          refine lv_iconst (v := nI 1) hx hb dX4_pushAll_120 (by decide +kernel) ?_
          refine lv_istore_n (lv' := [(1, .int (nI 1)), (0, .ref (ad 71)), (2, .int (nI k)), (3, .int (nI (q_n ((g 14) k)))), (4, .int (nI (q_n ((g 15) k)))), (6, .int (psL (g 14) (g 15) (g 16) (g 20) k (q_n ((g 15) k)) - (g 16) k))]) hx hb dX4_pushAll_121 rfl hl (by decide) rfl (fun ls hl => ?_)
          have hl9 : lv_has ls 7 [(0, .ref (ad 71)), (1, .int (q_b (psC (g 14) (g 15) (g 16) (g 19) (g 20) k || decide (psF (g 14) (g 15) (g 16) (g 19) k (q_n ((g 15) k)) < psF (g 14) (g 15) (g 16) (g 19) k (q_n ((g 14) k)) + (g 16) k) || decide (psL (g 14) (g 15) (g 16) (g 20) k (q_n ((g 15) k)) - (g 16) k < psL (g 14) (g 15) (g 16) (g 20) k (q_n ((g 14) k)))))), (2, .int (nI k))] := lv_cast (l := [(0, .ref (ad 71)), (1, .int (nI 1)), (2, .int (nI k))]) (lv_sub hl [1, 0, 2] rfl) (by
            have e9 : (nI 1) = (q_b (psC (g 14) (g 15) (g 16) (g 19) (g 20) k || decide (psF (g 14) (g 15) (g 16) (g 19) k (q_n ((g 15) k)) < psF (g 14) (g 15) (g 16) (g 19) k (q_n ((g 14) k)) + (g 16) k) || decide (psL (g 14) (g 15) (g 16) (g 20) k (q_n ((g 15) k)) - (g 16) k < psL (g 14) (g 15) (g 16) (g 20) k (q_n ((g 14) k))))) := by rfl
            rw [e9])
          have ew9 : (yrW cA ad (gs (gs g 19 (psF (g 14) (g 15) (g 16) (g 19) (k + 1))) 20 (upd (psL (g 14) (g 15) (g 16) (g 20) k) (q_n ((g 14) k)) (psL (g 14) (g 15) (g 16) (g 20) k (q_n ((g 15) k)) - (g 16) k))) z) = (yrW cA ad (gs (gs g 19 (psF (g 14) (g 15) (g 16) (g 19) (k + 1))) 20 (psL (g 14) (g 15) (g 16) (g 20) (k + 1))) z) := by rfl
          have hP : va_P D vwCl (yrW cA ad (gs (gs g 19 (psF (g 14) (g 15) (g 16) (g 19) (k + 1))) 20 (psL (g 14) (g 15) (g 16) (g 20) (k + 1))) z) H := va_cast' hP ew9
          have hD : va_D A (yrW cA ad (gs (gs g 19 (psF (g 14) (g 15) (g 16) (g 19) (k + 1))) 20 (psL (g 14) (g 15) (g 16) (g 20) (k + 1))) z) := va_castD hD ew9
          exact J122   _ _ _ hP hD hS hl9
      refine lv_iload_n hx hb dX4_pushAll_4 rfl (lv_at hl 2 rfl) ?_
      refine lv_aload_n hx hb dX4_pushAll_5 rfl (lv_at hl 0 rfl) ?_
      refine q_get hx hb hT hown hK hP kw_X4 0 rfl rfl 10 (by decide) kf_X4_50 rfl (v := .int (nI (z 1))) rfl dX4_pushAll_6 ?_
      refine lv_icmp_ge (tgt := 128) hx hb dX4_pushAll_9 (by decide) (fun c_9 => ?_) (fun c_9 => ?_)
      · have c_9 := nI_le1 (a := z 1) (b := k) (by omega) (by omega) c_9
        refine lv_iload_n hx hb dX4_pushAll_128 rfl (lv_at hl 1 rfl) ?_
        exact q_zret hx hb hr hlk (q_b_or _) (by rw [show k = z 1 by omega]) (va_cast' hP (by rw [show k = z 1 by omega])) hS dX4_pushAll_129
      · have c_9 := nI_le0 (a := z 1) (b := k) (by omega) (by omega) c_9
        refine lv_aload_n hx hb dX4_pushAll_12 rfl (lv_at hl 0 rfl) ?_
        refine q_get hx hb hT hown hK hP kw_X4 0 rfl rfl 2 (by decide) kf_X4_23 rfl (v := .ref (ad 14)) rfl dX4_pushAll_13 ?_
        refine lv_iload_n hx hb dX4_pushAll_16 rfl (lv_at hl 2 rfl) ?_
        refine q_callI (As := [.int (nI k)]) (r := g 14 k) (wc := rowW cA (ad 14) (ad 44) 40 (g 14)) (w1 := rowW cA (ad 14) (ad 44) 40 (g 14)) (ws1 := yrW cA ad (gs (gs g 19 (psF (g 14) (g 15) (g 16) (g 19) k)) 20 (psL (g 14) (g 15) (g 16) (g 20) k)) z) hx hb hml hown hT hK hP hD hS hA (c_X3_atN l D cA (ad 14) (ad 44) 40 (g 14) k (by omega) (by omega)) k_X3_at kl_X4_54 (q0 := 0) rfl rfl rfl [5, 6] rfl rfl rfl rfl hl rfl rfl (Nat.le_of_ble_eq_true rfl) ⟨⟨rfl, rfl⟩, Nat.le_of_ble_eq_true rfl, Nat.le_of_ble_eq_true rfl⟩ ⟨Nat.zero_le _, Nat.zero_le _⟩ dX4_pushAll_17 (fun H locs hP hD hS => ?_)
        refine q_top (y := nI (q_n ((g 14) k))) ((hE k (by omega)).1.eq (by omega)) ?_
        refine lv_istore_n (lv' := [(3, .int (nI (q_n ((g 14) k)))), (0, .ref (ad 71)), (1, .int (q_b (psC (g 14) (g 15) (g 16) (g 19) (g 20) k))), (2, .int (nI k))]) hx hb dX4_pushAll_20 rfl hl (by decide) rfl (fun ls hl => ?_)
        refine lv_aload_n hx hb dX4_pushAll_21 rfl (lv_at hl 1 rfl) ?_
        refine q_get hx hb hT hown hK hP kw_X4 0 rfl rfl 3 (by decide) kf_X4_26 rfl (v := .ref (ad 15)) rfl dX4_pushAll_22 ?_
        refine lv_iload_n hx hb dX4_pushAll_25 rfl (lv_at hl 3 rfl) ?_
        refine q_callI (As := [.int (nI k)]) (r := g 15 k) (wc := rowW cA (ad 15) (ad 45) 40 (g 15)) (w1 := rowW cA (ad 15) (ad 45) 40 (g 15)) (ws1 := yrW cA ad (gs (gs g 19 (psF (g 14) (g 15) (g 16) (g 19) k)) 20 (psL (g 14) (g 15) (g 16) (g 20) k)) z) hx hb hml hown hT hK hP hD hS hA (c_X3_atN l D cA (ad 15) (ad 45) 40 (g 15) k (by omega) (by omega)) k_X3_at kl_X4_54 (q0 := 0) rfl rfl rfl [7, 8] rfl rfl rfl rfl hl rfl rfl (Nat.le_of_ble_eq_true rfl) ⟨⟨rfl, rfl⟩, Nat.le_of_ble_eq_true rfl, Nat.le_of_ble_eq_true rfl⟩ ⟨Nat.zero_le _, Nat.zero_le _⟩ dX4_pushAll_26 (fun H locs hP hD hS => ?_)
        refine q_top (y := nI (q_n ((g 15) k))) ((hE k (by omega)).2.eq (by omega)) ?_
        refine lv_istore (lv' := [(4, .int (nI (q_n ((g 15) k)))), (3, .int (nI (q_n ((g 14) k)))), (0, .ref (ad 71)), (1, .int (q_b (psC (g 14) (g 15) (g 16) (g 19) (g 20) k))), (2, .int (nI k))]) hx hb dX4_pushAll_29 hl (by decide) rfl (fun ls hl => ?_)
        refine lv_aload_n hx hb dX4_pushAll_31 rfl (lv_at hl 2 rfl) ?_
        refine q_get hx hb hT hown hK hP kw_X4 0 rfl rfl 7 (by decide) kf_X4_38 rfl (v := .ref (ad 19)) rfl dX4_pushAll_32 ?_
        refine lv_iload_n hx hb dX4_pushAll_35 rfl (lv_at hl 1 rfl) ?_
        refine q_callI (As := [.int (nI (q_n ((g 14) k)))]) (r := (psF (g 14) (g 15) (g 16) (g 19) k) (q_n ((g 14) k))) (wc := rowW cA (ad 19) (ad 49) 16 (psF (g 14) (g 15) (g 16) (g 19) k)) (w1 := rowW cA (ad 19) (ad 49) 16 (psF (g 14) (g 15) (g 16) (g 19) k)) (ws1 := yrW cA ad (gs (gs g 19 (psF (g 14) (g 15) (g 16) (g 19) k)) 20 (psL (g 14) (g 15) (g 16) (g 20) k)) z) hx hb hml hown hT hK hP hD hS hA (c_X3_atN l D cA (ad 19) (ad 49) 16 (psF (g 14) (g 15) (g 16) (g 19) k) (q_n ((g 14) k)) ((hE k (by omega)).1.lt (by omega)) (by omega)) k_X3_at kl_X4_54 (q0 := 0) rfl rfl rfl [15, 16] rfl rfl rfl rfl hl rfl rfl (Nat.le_of_ble_eq_true rfl) ⟨⟨rfl, rfl⟩, Nat.le_of_ble_eq_true rfl, Nat.le_of_ble_eq_true rfl⟩ ⟨Nat.zero_le _, Nat.zero_le _⟩ dX4_pushAll_36 (fun H locs hP hD hS => ?_)
        refine lv_aload_n hx hb dX4_pushAll_39 rfl (lv_at hl 2 rfl) ?_
        refine q_get hx hb hT hown hK hP kw_X4 0 rfl rfl 4 (by decide) kf_X4_29 rfl (v := .ref (ad 16)) rfl dX4_pushAll_40 ?_
        refine lv_iload_n hx hb dX4_pushAll_43 rfl (lv_at hl 4 rfl) ?_
        refine q_callI (As := [.int (nI k)]) (r := g 16 k) (wc := rowW cA (ad 16) (ad 46) 40 (g 16)) (w1 := rowW cA (ad 16) (ad 46) 40 (g 16)) (ws1 := yrW cA ad (gs (gs g 19 (psF (g 14) (g 15) (g 16) (g 19) k)) 20 (psL (g 14) (g 15) (g 16) (g 20) k)) z) hx hb hml hown hT hK hP hD hS hA (c_X3_atN l D cA (ad 16) (ad 46) 40 (g 16) k (by omega) (by omega)) k_X3_at kl_X4_54 (q0 := 0) rfl rfl rfl [9, 10] rfl rfl rfl rfl hl rfl rfl (Nat.le_of_ble_eq_true rfl) ⟨⟨rfl, rfl⟩, Nat.le_of_ble_eq_true rfl, Nat.le_of_ble_eq_true rfl⟩ ⟨Nat.zero_le _, Nat.zero_le _⟩ dX4_pushAll_44 (fun H locs hP hD hS => ?_)
        refine lv_iadd hx hb dX4_pushAll_47 ?_
        refine lv_istore (lv' := [(5, .int (((psF (g 14) (g 15) (g 16) (g 19) k) (q_n ((g 14) k))) + (g 16 k))), (4, .int (nI (q_n ((g 15) k)))), (3, .int (nI (q_n ((g 14) k)))), (0, .ref (ad 71)), (1, .int (q_b (psC (g 14) (g 15) (g 16) (g 19) (g 20) k))), (2, .int (nI k))]) hx hb dX4_pushAll_48 hl (by decide) rfl (fun ls hl => ?_)
        refine lv_aload_n hx hb dX4_pushAll_50 rfl (lv_at hl 3 rfl) ?_
        refine q_get hx hb hT hown hK hP kw_X4 0 rfl rfl 8 (by decide) kf_X4_41 rfl (v := .ref (ad 20)) rfl dX4_pushAll_51 ?_
        refine lv_iload hx hb dX4_pushAll_54 (lv_at hl 1 rfl) ?_
        refine q_callI (As := [.int (nI (q_n ((g 15) k)))]) (r := (psL (g 14) (g 15) (g 16) (g 20) k) (q_n ((g 15) k))) (wc := rowW cA (ad 20) (ad 50) 16 (psL (g 14) (g 15) (g 16) (g 20) k)) (w1 := rowW cA (ad 20) (ad 50) 16 (psL (g 14) (g 15) (g 16) (g 20) k)) (ws1 := yrW cA ad (gs (gs g 19 (psF (g 14) (g 15) (g 16) (g 19) k)) 20 (psL (g 14) (g 15) (g 16) (g 20) k)) z) hx hb hml hown hT hK hP hD hS hA (c_X3_atN l D cA (ad 20) (ad 50) 16 (psL (g 14) (g 15) (g 16) (g 20) k) (q_n ((g 15) k)) ((hE k (by omega)).2.lt (by omega)) (by omega)) k_X3_at kl_X4_54 (q0 := 0) rfl rfl rfl [17, 18] rfl rfl rfl rfl hl rfl rfl (Nat.le_of_ble_eq_true rfl) ⟨⟨rfl, rfl⟩, Nat.le_of_ble_eq_true rfl, Nat.le_of_ble_eq_true rfl⟩ ⟨Nat.zero_le _, Nat.zero_le _⟩ dX4_pushAll_56 (fun H locs hP hD hS => ?_)
        refine lv_aload_n hx hb dX4_pushAll_59 rfl (lv_at hl 3 rfl) ?_
        refine q_get hx hb hT hown hK hP kw_X4 0 rfl rfl 4 (by decide) kf_X4_29 rfl (v := .ref (ad 16)) rfl dX4_pushAll_60 ?_
        refine lv_iload_n hx hb dX4_pushAll_63 rfl (lv_at hl 5 rfl) ?_
        refine q_callI (As := [.int (nI k)]) (r := g 16 k) (wc := rowW cA (ad 16) (ad 46) 40 (g 16)) (w1 := rowW cA (ad 16) (ad 46) 40 (g 16)) (ws1 := yrW cA ad (gs (gs g 19 (psF (g 14) (g 15) (g 16) (g 19) k)) 20 (psL (g 14) (g 15) (g 16) (g 20) k)) z) hx hb hml hown hT hK hP hD hS hA (c_X3_atN l D cA (ad 16) (ad 46) 40 (g 16) k (by omega) (by omega)) k_X3_at kl_X4_54 (q0 := 0) rfl rfl rfl [9, 10] rfl rfl rfl rfl hl rfl rfl (Nat.le_of_ble_eq_true rfl) ⟨⟨rfl, rfl⟩, Nat.le_of_ble_eq_true rfl, Nat.le_of_ble_eq_true rfl⟩ ⟨Nat.zero_le _, Nat.zero_le _⟩ dX4_pushAll_64 (fun H locs hP hD hS => ?_)
        refine lv_isub hx hb dX4_pushAll_67 ?_
        refine lv_istore (lv' := [(6, .int (((psL (g 14) (g 15) (g 16) (g 20) k) (q_n ((g 15) k))) - (g 16 k))), (5, .int (((psF (g 14) (g 15) (g 16) (g 19) k) (q_n ((g 14) k))) + (g 16 k))), (4, .int (nI (q_n ((g 15) k)))), (3, .int (nI (q_n ((g 14) k)))), (0, .ref (ad 71)), (1, .int (q_b (psC (g 14) (g 15) (g 16) (g 19) (g 20) k))), (2, .int (nI k))]) hx hb dX4_pushAll_68 hl (by decide) rfl (fun ls hl => ?_)
        refine lv_iload hx hb dX4_pushAll_70 (lv_at hl 1 rfl) ?_
        refine lv_aload_n hx hb dX4_pushAll_72 rfl (lv_at hl 4 rfl) ?_
        refine q_get hx hb hT hown hK hP kw_X4 0 rfl rfl 7 (by decide) kf_X4_38 rfl (v := .ref (ad 19)) rfl dX4_pushAll_73 ?_
        refine lv_iload hx hb dX4_pushAll_76 (lv_at hl 2 rfl) ?_
        refine q_callI (As := [.int (nI (q_n ((g 15) k)))]) (r := (psF (g 14) (g 15) (g 16) (g 19) k) (q_n ((g 15) k))) (wc := rowW cA (ad 19) (ad 49) 16 (psF (g 14) (g 15) (g 16) (g 19) k)) (w1 := rowW cA (ad 19) (ad 49) 16 (psF (g 14) (g 15) (g 16) (g 19) k)) (ws1 := yrW cA ad (gs (gs g 19 (psF (g 14) (g 15) (g 16) (g 19) k)) 20 (psL (g 14) (g 15) (g 16) (g 20) k)) z) hx hb hml hown hT hK hP hD hS hA (c_X3_atN l D cA (ad 19) (ad 49) 16 (psF (g 14) (g 15) (g 16) (g 19) k) (q_n ((g 15) k)) ((hE k (by omega)).2.lt (by omega)) (by omega)) k_X3_at kl_X4_54 (q0 := 0) rfl rfl rfl [15, 16] rfl rfl rfl rfl hl rfl rfl (Nat.le_of_ble_eq_true rfl) ⟨⟨rfl, rfl⟩, Nat.le_of_ble_eq_true rfl, Nat.le_of_ble_eq_true rfl⟩ ⟨Nat.zero_le _, Nat.zero_le _⟩ dX4_pushAll_78 (fun H locs hP hD hS => ?_)
        refine lv_icmp_le (tgt := 97) hx hb dX4_pushAll_81 (by decide) (fun c_81 => ?_) (fun c_81 => ?_)
        · have d_81 := q_nlt3 c_81
          have hl9 : lv_has ls 7 [(0, .ref (ad 71)), (1, .int (q_b (psC (g 14) (g 15) (g 16) (g 19) (g 20) k || decide (psF (g 14) (g 15) (g 16) (g 19) k (q_n ((g 15) k)) < psF (g 14) (g 15) (g 16) (g 19) k (q_n ((g 14) k)) + (g 16) k)))), (2, .int (nI k)), (3, .int (nI (q_n ((g 14) k)))), (4, .int (nI (q_n ((g 15) k)))), (6, .int (psL (g 14) (g 15) (g 16) (g 20) k (q_n ((g 15) k)) - (g 16) k))] := lv_cast (l := [(0, .ref (ad 71)), (1, .int (q_b (psC (g 14) (g 15) (g 16) (g 19) (g 20) k))), (2, .int (nI k)), (3, .int (nI (q_n ((g 14) k)))), (4, .int (nI (q_n ((g 15) k)))), (6, .int (((psL (g 14) (g 15) (g 16) (g 20) k) (q_n ((g 15) k))) - (g 16 k)))]) (lv_sub hl [4, 5, 6, 3, 2, 0] rfl) (by
            have e9 : (q_b (psC (g 14) (g 15) (g 16) (g 19) (g 20) k)) = (q_b (psC (g 14) (g 15) (g 16) (g 19) (g 20) k || decide (psF (g 14) (g 15) (g 16) (g 19) k (q_n ((g 15) k)) < psF (g 14) (g 15) (g 16) (g 19) k (q_n ((g 14) k)) + (g 16) k))) := by rw [decide_eq_false d_81, Bool.or_false]
            rw [e9])
          have ew9 : (yrW cA ad (gs (gs g 19 (psF (g 14) (g 15) (g 16) (g 19) k)) 20 (psL (g 14) (g 15) (g 16) (g 20) k)) z) = (yrW cA ad (gs (gs g 19 (psF (g 14) (g 15) (g 16) (g 19) (k + 1))) 20 (psL (g 14) (g 15) (g 16) (g 20) k)) z) := by rw [psF_f d_81]
          have hP : va_P D vwCl (yrW cA ad (gs (gs g 19 (psF (g 14) (g 15) (g 16) (g 19) (k + 1))) 20 (psL (g 14) (g 15) (g 16) (g 20) k)) z) H := va_cast' hP ew9
          have hD : va_D A (yrW cA ad (gs (gs g 19 (psF (g 14) (g 15) (g 16) (g 19) (k + 1))) 20 (psL (g 14) (g 15) (g 16) (g 20) k)) z) := va_castD hD ew9
          exact J97   _ _ _ hP hD hS hl9
        · have d_81 := q_lt3 c_81
          refine lv_aload_n hx hb dX4_pushAll_84 rfl (lv_at hl 4 rfl) ?_
          refine q_get hx hb hT hown hK hP kw_X4 0 rfl rfl 7 (by decide) kf_X4_38 rfl (v := .ref (ad 19)) rfl dX4_pushAll_85 ?_
          refine lv_iload hx hb dX4_pushAll_88 (lv_at hl 2 rfl) ?_
          refine lv_iload hx hb dX4_pushAll_90 (lv_at hl 1 rfl) ?_
          refine q_callV (As := [.int (nI (q_n ((g 15) k))), .int (((psF (g 14) (g 15) (g 16) (g 19) k) (q_n ((g 14) k))) + (g 16 k))]) (wc := rowW cA (ad 19) (ad 49) 16 (psF (g 14) (g 15) (g 16) (g 19) k)) (w1 := rowW cA (ad 19) (ad 49) 16 (upd (psF (g 14) (g 15) (g 16) (g 19) k) (q_n ((g 15) k)) (((psF (g 14) (g 15) (g 16) (g 19) k) (q_n ((g 14) k))) + (g 16 k)))) (ws1 := yrW cA ad (gs (gs g 19 (upd (psF (g 14) (g 15) (g 16) (g 19) k) (q_n ((g 15) k)) (((psF (g 14) (g 15) (g 16) (g 19) k) (q_n ((g 14) k))) + (g 16 k)))) 20 (psL (g 14) (g 15) (g 16) (g 20) k)) z) hx hb hml hown hT hK hP hD hS hA (c_X3_putN l D cA (ad 19) (ad 49) 16 (psF (g 14) (g 15) (g 16) (g 19) k) (q_n ((g 15) k)) (((psF (g 14) (g 15) (g 16) (g 19) k) (q_n ((g 14) k))) + (g 16 k)) ((hE k (by omega)).2.lt (by omega)) (by omega)) k_X3_put kl_X4_58 (q0 := 0) rfl rfl rfl [15, 16] rfl rfl rfl rfl hl rfl rfl (Nat.le_of_ble_eq_true rfl) ⟨⟨rfl, rfl⟩, Nat.le_of_ble_eq_true rfl, Nat.le_of_ble_eq_true rfl⟩ ⟨Nat.zero_le _, Nat.zero_le _⟩ dX4_pushAll_92 (fun H locs hP hD hS => ?_)
          refine lv_iconst (v := nI 1) hx hb dX4_pushAll_95 (by decide +kernel) ?_
          refine lv_istore_n (lv' := [(1, .int (nI 1)), (6, .int (((psL (g 14) (g 15) (g 16) (g 20) k) (q_n ((g 15) k))) - (g 16 k))), (5, .int (((psF (g 14) (g 15) (g 16) (g 19) k) (q_n ((g 14) k))) + (g 16 k))), (4, .int (nI (q_n ((g 15) k)))), (3, .int (nI (q_n ((g 14) k)))), (0, .ref (ad 71)), (2, .int (nI k))]) hx hb dX4_pushAll_96 rfl hl (by decide) rfl (fun ls hl => ?_)
          have hl9 : lv_has ls 7 [(0, .ref (ad 71)), (1, .int (q_b (psC (g 14) (g 15) (g 16) (g 19) (g 20) k || decide (psF (g 14) (g 15) (g 16) (g 19) k (q_n ((g 15) k)) < psF (g 14) (g 15) (g 16) (g 19) k (q_n ((g 14) k)) + (g 16) k)))), (2, .int (nI k)), (3, .int (nI (q_n ((g 14) k)))), (4, .int (nI (q_n ((g 15) k)))), (6, .int (psL (g 14) (g 15) (g 16) (g 20) k (q_n ((g 15) k)) - (g 16) k))] := lv_cast (l := [(0, .ref (ad 71)), (1, .int (nI 1)), (2, .int (nI k)), (3, .int (nI (q_n ((g 14) k)))), (4, .int (nI (q_n ((g 15) k)))), (6, .int (((psL (g 14) (g 15) (g 16) (g 20) k) (q_n ((g 15) k))) - (g 16 k)))]) (lv_sub hl [5, 0, 6, 4, 3, 1] rfl) (by
            have e9 : (nI 1) = (q_b (psC (g 14) (g 15) (g 16) (g 19) (g 20) k || decide (psF (g 14) (g 15) (g 16) (g 19) k (q_n ((g 15) k)) < psF (g 14) (g 15) (g 16) (g 19) k (q_n ((g 14) k)) + (g 16) k))) := by rfl
            rw [e9])
          have ew9 : (yrW cA ad (gs (gs g 19 (upd (psF (g 14) (g 15) (g 16) (g 19) k) (q_n ((g 15) k)) (((psF (g 14) (g 15) (g 16) (g 19) k) (q_n ((g 14) k))) + (g 16 k)))) 20 (psL (g 14) (g 15) (g 16) (g 20) k)) z) = (yrW cA ad (gs (gs g 19 (psF (g 14) (g 15) (g 16) (g 19) (k + 1))) 20 (psL (g 14) (g 15) (g 16) (g 20) k)) z) := by rfl
          have hP : va_P D vwCl (yrW cA ad (gs (gs g 19 (psF (g 14) (g 15) (g 16) (g 19) (k + 1))) 20 (psL (g 14) (g 15) (g 16) (g 20) k)) z) H := va_cast' hP ew9
          have hD : va_D A (yrW cA ad (gs (gs g 19 (psF (g 14) (g 15) (g 16) (g 19) (k + 1))) 20 (psL (g 14) (g 15) (g 16) (g 20) k)) z) := va_castD hD ew9
          exact J97   _ _ _ hP hD hS hl9
  refine lv_iconst (v := nI 0) hx hb dX4_pushAll_0 (by decide +kernel) ?_
  refine lv_istore_n (lv' := [(1, .int (nI 0)), (0, .ref (ad 71))]) hx hb dX4_pushAll_1 rfl hl (by decide) rfl (fun ls hl => ?_)
  refine lv_iconst (v := nI 0) hx hb dX4_pushAll_2 (by decide +kernel) ?_
  refine lv_istore_n (lv' := [(2, .int (nI 0)), (1, .int (nI 0)), (0, .ref (ad 71))]) hx hb dX4_pushAll_3 rfl hl (by decide) rfl (fun ls hl => ?_)
  have hl9 : lv_has ls 7 [(0, .ref (ad 71)), (1, .int (q_b (psC (g 14) (g 15) (g 16) (g 19) (g 20) 0))), (2, .int (nI 0))] := lv_cast (l := [(0, .ref (ad 71)), (1, .int (nI 0)), (2, .int (nI 0))]) (lv_sub hl [2, 1, 0] rfl) (by
    have e9 : (nI 0) = (q_b (psC (g 14) (g 15) (g 16) (g 19) (g 20) 0)) := by rfl
    rw [e9])
  have ew9 : (yrW cA ad g z) = (yrW cA ad (gs (gs g 19 (psF (g 14) (g 15) (g 16) (g 19) 0)) 20 (psL (g 14) (g 15) (g 16) (g 20) 0)) z) := by rfl
  have hP : va_P D vwCl (yrW cA ad (gs (gs g 19 (psF (g 14) (g 15) (g 16) (g 19) 0)) 20 (psL (g 14) (g 15) (g 16) (g 20) 0)) z) H := va_cast' hP ew9
  have hD : va_D A (yrW cA ad (gs (gs g 19 (psF (g 14) (g 15) (g 16) (g 19) 0)) 20 (psL (g 14) (g 15) (g 16) (g 20) 0)) z) := va_castD hD ew9
  exact L4 (z 1 + 1) 0 (by omega) (by omega) _ _ _ hP hD hS hl9
abbrev rm_X4_comesToRest : Room := { frames := 2, cells := 0, slots := 0, locals := 48 }
set_option maxRecDepth 100000 in
set_option maxHeartbeats 4000000 in
theorem c_X4_comesToRest (l : Launch) (D : va_G) (cA : ClassId) (ad : Nat → Nat) (g : Nat → Nat → Int32) (z : Nat → Nat)  (hE : ∀ k, k < (z 1) → q_r ((g 14) k) 16 ∧ q_r ((g 15) k) 16) (ht : (z 1) ≤ 40) : q_CI l yX4_comesToRest [Cond.code yX4_comesToRest cX4_comesToRest 2 (some .boolean)] rm_X4_comesToRest D cA [.ref (ad 71)] (yrW cA ad g z) (q_b (itR (g 14) (g 15) (g 16) (g 19) (g 20) (z 1))) (yrW cA ad (gs (gs g 19 (itF (g 14) (g 15) (g 16) (g 19) (z 1) 16)) 20 (itL (g 14) (g 15) (g 16) (g 20) (z 1) 16)) z) := by
  refine q_startI RX4 (by decide +kernel) rfl (Nat.le_of_ble_eq_true rfl) ?_
  intro p e s m below meth c A args H locs ls hx hb hr hml hown hT hlk hP hK hD hA hS hl
  have hl : lv_has ls 2 [(0, .ref (ad 71))] := hl
  have L2 : ∀ (fu : Nat), ∀ (r : Nat), (16 + 1 ≤ r + fu) → (r ≤ 16) → (∀ j, j < r → itC (g 14) (g 15) (g 16) (g 19) (g 20) (z 1) j = true) → ∀ (H : Heap) (locs : List Loc) (ls : Array Slot), va_P D vwCl (yrW cA ad (gs (gs g 19 (itF (g 14) (g 15) (g 16) (g 19) (z 1) r)) 20 (itL (g 14) (g 15) (g 16) (g 20) (z 1) r)) z) H → va_D A (yrW cA ad (gs (gs g 19 (itF (g 14) (g 15) (g 16) (g 19) (z 1) r)) 20 (itL (g 14) (g 15) (g 16) (g 20) (z 1) r)) z) → va_S A s.heap H locs → lv_has ls 2 [(0, .ref (ad 71)), (1, .int (nI r))] → W p l e rm_X4_comesToRest s m args below meth c H locs 0 0 (q_GI D (q_b (itR (g 14) (g 15) (g 16) (g 19) (g 20) (z 1))) (yrW cA ad (gs (gs g 19 (itF (g 14) (g 15) (g 16) (g 19) (z 1) 16)) 20 (itL (g 14) (g 15) (g 16) (g 20) (z 1) 16)) z) A below args s) (F0 m 2 ls []) := by
    intro fu
    induction fu with
    | zero =>
      intro r hfu hr9 hc H locs ls hP hD hS hl
      exfalso; omega
    | succ fu ih2 =>
      intro r hfu hr9 hc H locs ls hP hD hS hl
      refine lv_iload_n hx hb dX4_comesToRest_2 rfl (lv_at hl 1 rfl) ?_
      refine lv_bipush (v := nI 16) hx hb dX4_comesToRest_3 (by decide +kernel) ?_
      refine lv_icmp_ge (tgt := 23) hx hb dX4_comesToRest_5 (by decide) (fun c_5 => ?_) (fun c_5 => ?_)
      · have c_5 := nI_le1 (a := 16) (b := r) (by omega) (by omega) c_5
        refine lv_iconst (v := nI 0) hx hb dX4_comesToRest_23 (by decide +kernel) ?_
        exact q_zret hx hb hr hlk (Or.inl rfl) (by exact q_bf (itR_f (fun j hj => hc j (by omega)))) (va_cast' hP (by rw [show r = 16 by omega])) hS dX4_comesToRest_24
      · have c_5 := nI_le0 (a := 16) (b := r) (by omega) (by omega) c_5
        refine lv_aload_n hx hb dX4_comesToRest_8 rfl (lv_at hl 0 rfl) ?_
        refine q_callI (As := []) (r := q_b (psC (g 14) (g 15) (g 16) (itF (g 14) (g 15) (g 16) (g 19) (z 1) r) (itL (g 14) (g 15) (g 16) (g 20) (z 1) r) (z 1))) (wc := yrW cA ad (gs (gs g 19 (itF (g 14) (g 15) (g 16) (g 19) (z 1) r)) 20 (itL (g 14) (g 15) (g 16) (g 20) (z 1) r)) z) (w1 := yrW cA ad (gs (gs g 19 (psF (g 14) (g 15) (g 16) (itF (g 14) (g 15) (g 16) (g 19) (z 1) r) (z 1))) 20 (psL (g 14) (g 15) (g 16) (itL (g 14) (g 15) (g 16) (g 20) (z 1) r) (z 1))) z) (ws1 := yrW cA ad (gs (gs g 19 (psF (g 14) (g 15) (g 16) (itF (g 14) (g 15) (g 16) (g 19) (z 1) r) (z 1))) 20 (psL (g 14) (g 15) (g 16) (itL (g 14) (g 15) (g 16) (g 20) (z 1) r) (z 1))) z) hx hb hml hown hT hK hP hD hS hA (c_X4_pushAll l D cA ad (gs (gs g 19 (itF (g 14) (g 15) (g 16) (g 19) (z 1) r)) 20 (itL (g 14) (g 15) (g 16) (g 20) (z 1) r)) z hE (by omega)) k_X4_pushAll kl_X4_96 (q0 := 0) rfl rfl rfl [0, 1, 2, 3, 4, 5, 6, 7, 8, 9, 10, 11, 12, 13, 14, 15, 16, 17, 18, 19, 20] rfl rfl rfl rfl hl rfl rfl (Nat.le_of_ble_eq_true rfl) ⟨⟨rfl, rfl⟩, Nat.le_of_ble_eq_true rfl, Nat.le_of_ble_eq_true rfl⟩ ⟨Nat.zero_le _, Nat.zero_le _⟩ dX4_comesToRest_9 (fun H locs hP hD hS => ?_)
        refine lv_if_ne (tgt := 17) hx hb dX4_comesToRest_12 (by decide) (fun c_12 => ?_) (fun c_12 => ?_)
        · have c_12 := q_b0n c_12
          refine lv_iinc (v := nI (r + 1)) (lv' := [(1, .int (nI (r + 1))), (0, .ref (ad 71))]) hx hb dX4_comesToRest_17 hl (k := 1) rfl (q_inc1 _) (by decide) rfl (fun ls hl => ?_)
          refine lv_goto (tgt := 2) hx hb dX4_comesToRest_20 (by decide) ?_
          have ew9 : (yrW cA ad (gs (gs g 19 (psF (g 14) (g 15) (g 16) (itF (g 14) (g 15) (g 16) (g 19) (z 1) r) (z 1))) 20 (psL (g 14) (g 15) (g 16) (itL (g 14) (g 15) (g 16) (g 20) (z 1) r) (z 1))) z) = (yrW cA ad (gs (gs g 19 (itF (g 14) (g 15) (g 16) (g 19) (z 1) (r + 1))) 20 (itL (g 14) (g 15) (g 16) (g 20) (z 1) (r + 1))) z) := by rfl
          have hP : va_P D vwCl (yrW cA ad (gs (gs g 19 (itF (g 14) (g 15) (g 16) (g 19) (z 1) (r + 1))) 20 (itL (g 14) (g 15) (g 16) (g 20) (z 1) (r + 1))) z) H := va_cast' hP ew9
          have hD : va_D A (yrW cA ad (gs (gs g 19 (itF (g 14) (g 15) (g 16) (g 19) (z 1) (r + 1))) 20 (itL (g 14) (g 15) (g 16) (g 20) (z 1) (r + 1))) z) := va_castD hD ew9
          exact ih2 (r + 1) (by omega) (by omega) (fun j hj => by rcases Nat.lt_or_ge j r with q | q; exact hc j q; rw [show j = r by omega]; exact c_12) _ _ _ hP hD hS (lv_sub hl [1, 0] rfl)
        · have c_12 := q_b0e c_12
          refine lv_iconst (v := nI 1) hx hb dX4_comesToRest_15 (by decide +kernel) ?_
          exact q_zret hx hb hr hlk (Or.inr rfl) (by exact q_bt (itR_t (by omega) c_12)) (va_cast' hP (by first | rw [← (it_16 c_12 (by omega)).1, ← (it_16 c_12 (by omega)).2]; rfl)) hS dX4_comesToRest_16
  refine lv_iconst (v := nI 0) hx hb dX4_comesToRest_0 (by decide +kernel) ?_
  refine lv_istore_n (lv' := [(1, .int (nI 0)), (0, .ref (ad 71))]) hx hb dX4_comesToRest_1 rfl hl (by decide) rfl (fun ls hl => ?_)
  have ew9 : (yrW cA ad g z) = (yrW cA ad (gs (gs g 19 (itF (g 14) (g 15) (g 16) (g 19) (z 1) 0)) 20 (itL (g 14) (g 15) (g 16) (g 20) (z 1) 0)) z) := by rfl
  have hP : va_P D vwCl (yrW cA ad (gs (gs g 19 (itF (g 14) (g 15) (g 16) (g 19) (z 1) 0)) 20 (itL (g 14) (g 15) (g 16) (g 20) (z 1) 0)) z) H := va_cast' hP ew9
  have hD : va_D A (yrW cA ad (gs (gs g 19 (itF (g 14) (g 15) (g 16) (g 19) (z 1) 0)) 20 (itL (g 14) (g 15) (g 16) (g 20) (z 1) 0)) z) := va_castD hD ew9
  exact L2 (16 + 1) 0 (by omega) (by omega) (fun j hj => by rcases Nat.lt_or_ge j r with q | q; exact hc j q; rw [show j = r by omega]; exact c_12) _ _ _ hP hD hS (lv_sub hl [1, 0] rfl)
abbrev rm_X4_leavesYears : Room := { frames := 1, cells := 0, slots := 0, locals := 21 }
set_option maxRecDepth 100000 in
set_option maxHeartbeats 4000000 in
theorem c_X4_leavesYears (l : Launch) (D : va_G) (cA : ClassId) (ad : Nat → Nat) (g : Nat → Nat → Int32) (z : Nat → Nat)   : q_CI l yX4_leavesYears [Cond.code yX4_leavesYears cX4_leavesYears 2 (some .boolean)] rm_X4_leavesYears D cA [.ref (ad 71)] (yrW cA ad g z) (q_b (leB (g 19) (g 20) 16)) (yrW cA ad g z) := by
  refine q_startI RX4 (by decide +kernel) rfl (Nat.le_of_ble_eq_true rfl) ?_
  intro p e s m below meth c A args H locs ls hx hb hr hml hown hT hlk hP hK hD hA hS hl
  have hl : lv_has ls 2 [(0, .ref (ad 71))] := hl
  have L2 : ∀ (fu : Nat), ∀ (k : Nat), (16 + 1 ≤ k + fu) → (k ≤ 16) → (∀ j, j < k → (g 19) j ≤ (g 20) j) → ∀ (H : Heap) (locs : List Loc) (ls : Array Slot), va_P D vwCl (yrW cA ad g z) H → va_D A (yrW cA ad g z) → va_S A s.heap H locs → lv_has ls 2 [(0, .ref (ad 71)), (1, .int (nI k))] → W p l e rm_X4_leavesYears s m args below meth c H locs 0 0 (q_GI D (q_b (leB (g 19) (g 20) 16)) (yrW cA ad g z) A below args s) (F0 m 2 ls []) := by
    intro fu
    induction fu with
    | zero =>
      intro k hfu hk hc H locs ls hP hD hS hl
      exfalso; omega
    | succ fu ih2 =>
      intro k hfu hk hc H locs ls hP hD hS hl
      refine lv_iload_n hx hb dX4_leavesYears_2 rfl (lv_at hl 1 rfl) ?_
      refine lv_bipush (v := nI 16) hx hb dX4_leavesYears_3 (by decide +kernel) ?_
      refine lv_icmp_ge (tgt := 35) hx hb dX4_leavesYears_5 (by decide) (fun c_5 => ?_) (fun c_5 => ?_)
      · have c_5 := nI_le1 (a := 16) (b := k) (by omega) (by omega) c_5
        refine lv_iconst (v := nI 1) hx hb dX4_leavesYears_35 (by decide +kernel) ?_
        exact q_zret hx hb hr hlk (Or.inr rfl) (by exact q_bt (leB_t (fun j hj => hc j (by omega)))) hP hS dX4_leavesYears_36
      · have c_5 := nI_le0 (a := 16) (b := k) (by omega) (by omega) c_5
        refine lv_aload_n hx hb dX4_leavesYears_8 rfl (lv_at hl 0 rfl) ?_
        refine q_get hx hb hT hown hK hP kw_X4 0 rfl rfl 7 (by decide) kf_X4_38 rfl (v := .ref (ad 19)) rfl dX4_leavesYears_9 ?_
        refine lv_iload_n hx hb dX4_leavesYears_12 rfl (lv_at hl 1 rfl) ?_
        refine q_callI (As := [.int (nI k)]) (r := g 19 k) (wc := rowW cA (ad 19) (ad 49) 16 (g 19)) (w1 := rowW cA (ad 19) (ad 49) 16 (g 19)) (ws1 := yrW cA ad g z) hx hb hml hown hT hK hP hD hS hA (c_X3_atN l D cA (ad 19) (ad 49) 16 (g 19) k (by omega) (by omega)) k_X3_at kl_X4_54 (q0 := 0) rfl rfl rfl [15, 16] rfl rfl rfl rfl hl rfl rfl (Nat.le_of_ble_eq_true rfl) ⟨⟨rfl, rfl⟩, Nat.le_of_ble_eq_true rfl, Nat.le_of_ble_eq_true rfl⟩ ⟨Nat.zero_le _, Nat.zero_le _⟩ dX4_leavesYears_13 (fun H locs hP hD hS => ?_)
        refine lv_aload_n hx hb dX4_leavesYears_16 rfl (lv_at hl 0 rfl) ?_
        refine q_get hx hb hT hown hK hP kw_X4 0 rfl rfl 8 (by decide) kf_X4_41 rfl (v := .ref (ad 20)) rfl dX4_leavesYears_17 ?_
        refine lv_iload_n hx hb dX4_leavesYears_20 rfl (lv_at hl 1 rfl) ?_
        refine q_callI (As := [.int (nI k)]) (r := g 20 k) (wc := rowW cA (ad 20) (ad 50) 16 (g 20)) (w1 := rowW cA (ad 20) (ad 50) 16 (g 20)) (ws1 := yrW cA ad g z) hx hb hml hown hT hK hP hD hS hA (c_X3_atN l D cA (ad 20) (ad 50) 16 (g 20) k (by omega) (by omega)) k_X3_at kl_X4_54 (q0 := 0) rfl rfl rfl [17, 18] rfl rfl rfl rfl hl rfl rfl (Nat.le_of_ble_eq_true rfl) ⟨⟨rfl, rfl⟩, Nat.le_of_ble_eq_true rfl, Nat.le_of_ble_eq_true rfl⟩ ⟨Nat.zero_le _, Nat.zero_le _⟩ dX4_leavesYears_21 (fun H locs hP hD hS => ?_)
        refine lv_icmp_le (tgt := 29) hx hb dX4_leavesYears_24 (by decide) (fun c_24 => ?_) (fun c_24 => ?_)
        · refine lv_iinc (v := nI (k + 1)) (lv' := [(1, .int (nI (k + 1))), (0, .ref (ad 71))]) hx hb dX4_leavesYears_29 hl (k := 1) rfl (q_inc1 _) (by decide) rfl (fun ls hl => ?_)
          refine lv_goto (tgt := 2) hx hb dX4_leavesYears_32 (by decide) ?_
          exact ih2 (k + 1) (by omega) (by omega) (fun j hj => by rcases Nat.lt_or_ge j k with q | q; exact hc j q; rw [show j = k by omega]; exact c_24) _ _ _ hP hD hS (lv_sub hl [1, 0] rfl)
        · refine lv_iconst (v := nI 0) hx hb dX4_leavesYears_27 (by decide +kernel) ?_
          exact q_zret hx hb hr hlk (Or.inl rfl) (by exact q_bf (leB_f (j := k) (by omega) c_24)) hP hS dX4_leavesYears_28
  refine lv_iconst (v := nI 0) hx hb dX4_leavesYears_0 (by decide +kernel) ?_
  refine lv_istore_n (lv' := [(1, .int (nI 0)), (0, .ref (ad 71))]) hx hb dX4_leavesYears_1 rfl hl (by decide) rfl (fun ls hl => ?_)
  exact L2 (16 + 1) 0 (by omega) (by omega) (fun j hj => by rcases Nat.lt_or_ge j k with q | q; exact hc j q; rw [show j = k by omega]; exact c_24) _ _ _ hP hD hS (lv_sub hl [1, 0] rfl)
abbrev rm_X4_countMoved : Room := { frames := 1, cells := 0, slots := 0, locals := 21 }
set_option maxRecDepth 100000 in
set_option maxHeartbeats 4000000 in
theorem c_X4_countMoved (l : Launch) (D : va_G) (cA : ClassId) (ad : Nat → Nat) (g : Nat → Nat → Int32) (z : Nat → Nat)   : q_CI l yX4_countMoved [Cond.code yX4_countMoved cX4_countMoved 3 (some .int)] rm_X4_countMoved D cA [.ref (ad 71)] (yrW cA ad g z) (nI (mvd (g 19) (g 20) (g 17) (g 18) 16)) (yrW cA ad g z) := by
  refine q_startI RX4 (by decide +kernel) rfl (Nat.le_of_ble_eq_true rfl) ?_
  intro p e s m below meth c A args H locs ls hx hb hr hml hown hT hlk hP hK hD hA hS hl
  have hl : lv_has ls 3 [(0, .ref (ad 71))] := hl
  have L4 : ∀ (fu : Nat), ∀ (k : Nat), (16 + 1 ≤ k + fu) → (k ≤ 16) → ∀ (H : Heap) (locs : List Loc) (ls : Array Slot), va_P D vwCl (yrW cA ad g z) H → va_D A (yrW cA ad g z) → va_S A s.heap H locs → lv_has ls 3 [(0, .ref (ad 71)), (1, .int (nI (mvd (g 19) (g 20) (g 17) (g 18) k))), (2, .int (nI k))] → W p l e rm_X4_countMoved s m args below meth c H locs 0 0 (q_GI D (nI (mvd (g 19) (g 20) (g 17) (g 18) 16)) (yrW cA ad g z) A below args s) (F0 m 4 ls []) := by
    intro fu
    induction fu with
    | zero =>
      intro k hfu hk H locs ls hP hD hS hl
      exfalso; omega
    | succ fu ih4 =>
      intro k hfu hk H locs ls hP hD hS hl
      have J51 : ∀ (H : Heap) (locs : List Loc) (ls : Array Slot), va_P D vwCl (yrW cA ad g z) H → va_D A (yrW cA ad g z) → va_S A s.heap H locs → lv_has ls 3 [(0, .ref (ad 71)), (1, .int (nI (mvd (g 19) (g 20) (g 17) (g 18) (k + 1)))), (2, .int (nI k))] → W p l e rm_X4_countMoved s m args below meth c H locs 0 0 (q_GI D (nI (mvd (g 19) (g 20) (g 17) (g 18) 16)) (yrW cA ad g z) A below args s) (F0 m 51 ls []) := by
        intro   H locs ls hP hD hS hl
        refine lv_iinc (v := nI (k + 1)) (lv' := [(2, .int (nI (k + 1))), (0, .ref (ad 71)), (1, .int (nI (mvd (g 19) (g 20) (g 17) (g 18) (k + 1))))]) hx hb dX4_countMoved_51 hl (k := 2) rfl (q_inc1 _) (by decide) rfl (fun ls hl => ?_)
        refine lv_goto (tgt := 4) hx hb dX4_countMoved_54 (by decide) ?_
        exact L4 (16 + 1) (k + 1) (by omega) (by omega) _ _ _ hP hD hS (lv_sub hl [1, 2, 0] rfl)
      refine lv_iload_n hx hb dX4_countMoved_4 rfl (lv_at hl 2 rfl) ?_
      refine lv_bipush (v := nI 16) hx hb dX4_countMoved_5 (by decide +kernel) ?_
      refine lv_icmp_ge (tgt := 57) hx hb dX4_countMoved_7 (by decide) (fun c_7 => ?_) (fun c_7 => ?_)
      · have c_7 := nI_le1 (a := 16) (b := k) (by omega) (by omega) c_7
        refine lv_iload_n hx hb dX4_countMoved_57 rfl (lv_at hl 1 rfl) ?_
        exact q_iret hx hb hr hlk (by rw [show k = 16 by omega]) hP hS dX4_countMoved_58
      · have c_7 := nI_le0 (a := 16) (b := k) (by omega) (by omega) c_7
        refine lv_aload_n hx hb dX4_countMoved_10 rfl (lv_at hl 0 rfl) ?_
        refine q_get hx hb hT hown hK hP kw_X4 0 rfl rfl 7 (by decide) kf_X4_38 rfl (v := .ref (ad 19)) rfl dX4_countMoved_11 ?_
        refine lv_iload_n hx hb dX4_countMoved_14 rfl (lv_at hl 2 rfl) ?_
        refine q_callI (As := [.int (nI k)]) (r := g 19 k) (wc := rowW cA (ad 19) (ad 49) 16 (g 19)) (w1 := rowW cA (ad 19) (ad 49) 16 (g 19)) (ws1 := yrW cA ad g z) hx hb hml hown hT hK hP hD hS hA (c_X3_atN l D cA (ad 19) (ad 49) 16 (g 19) k (by omega) (by omega)) k_X3_at kl_X4_54 (q0 := 0) rfl rfl rfl [15, 16] rfl rfl rfl rfl hl rfl rfl (Nat.le_of_ble_eq_true rfl) ⟨⟨rfl, rfl⟩, Nat.le_of_ble_eq_true rfl, Nat.le_of_ble_eq_true rfl⟩ ⟨Nat.zero_le _, Nat.zero_le _⟩ dX4_countMoved_15 (fun H locs hP hD hS => ?_)
        refine lv_aload_n hx hb dX4_countMoved_18 rfl (lv_at hl 0 rfl) ?_
        refine q_get hx hb hT hown hK hP kw_X4 0 rfl rfl 5 (by decide) kf_X4_32 rfl (v := .ref (ad 17)) rfl dX4_countMoved_19 ?_
        refine lv_iload_n hx hb dX4_countMoved_22 rfl (lv_at hl 2 rfl) ?_
        refine q_callI (As := [.int (nI k)]) (r := g 17 k) (wc := rowW cA (ad 17) (ad 47) 16 (g 17)) (w1 := rowW cA (ad 17) (ad 47) 16 (g 17)) (ws1 := yrW cA ad g z) hx hb hml hown hT hK hP hD hS hA (c_X3_atN l D cA (ad 17) (ad 47) 16 (g 17) k (by omega) (by omega)) k_X3_at kl_X4_54 (q0 := 0) rfl rfl rfl [11, 12] rfl rfl rfl rfl hl rfl rfl (Nat.le_of_ble_eq_true rfl) ⟨⟨rfl, rfl⟩, Nat.le_of_ble_eq_true rfl, Nat.le_of_ble_eq_true rfl⟩ ⟨Nat.zero_le _, Nat.zero_le _⟩ dX4_countMoved_23 (fun H locs hP hD hS => ?_)
        refine lv_icmp_ne (tgt := 48) hx hb dX4_countMoved_26 (by decide) (fun c_26 => ?_) (fun c_26 => ?_)
        · refine lv_iinc (v := nI ((mvd (g 19) (g 20) (g 17) (g 18) k) + 1)) (lv' := [(1, .int (nI ((mvd (g 19) (g 20) (g 17) (g 18) k) + 1))), (0, .ref (ad 71)), (2, .int (nI k))]) hx hb dX4_countMoved_48 hl (k := 1) rfl (q_inc1 _) (by decide) rfl (fun ls hl => ?_)
          exact J51   _ _ _ hP hD hS (lv_sub hl [1, 0, 2] rfl)
        · refine lv_aload_n hx hb dX4_countMoved_29 rfl (lv_at hl 0 rfl) ?_
          refine q_get hx hb hT hown hK hP kw_X4 0 rfl rfl 8 (by decide) kf_X4_41 rfl (v := .ref (ad 20)) rfl dX4_countMoved_30 ?_
          refine lv_iload_n hx hb dX4_countMoved_33 rfl (lv_at hl 2 rfl) ?_
          refine q_callI (As := [.int (nI k)]) (r := g 20 k) (wc := rowW cA (ad 20) (ad 50) 16 (g 20)) (w1 := rowW cA (ad 20) (ad 50) 16 (g 20)) (ws1 := yrW cA ad g z) hx hb hml hown hT hK hP hD hS hA (c_X3_atN l D cA (ad 20) (ad 50) 16 (g 20) k (by omega) (by omega)) k_X3_at kl_X4_54 (q0 := 0) rfl rfl rfl [17, 18] rfl rfl rfl rfl hl rfl rfl (Nat.le_of_ble_eq_true rfl) ⟨⟨rfl, rfl⟩, Nat.le_of_ble_eq_true rfl, Nat.le_of_ble_eq_true rfl⟩ ⟨Nat.zero_le _, Nat.zero_le _⟩ dX4_countMoved_34 (fun H locs hP hD hS => ?_)
          refine lv_aload_n hx hb dX4_countMoved_37 rfl (lv_at hl 0 rfl) ?_
          refine q_get hx hb hT hown hK hP kw_X4 0 rfl rfl 6 (by decide) kf_X4_35 rfl (v := .ref (ad 18)) rfl dX4_countMoved_38 ?_
          refine lv_iload_n hx hb dX4_countMoved_41 rfl (lv_at hl 2 rfl) ?_
          refine q_callI (As := [.int (nI k)]) (r := g 18 k) (wc := rowW cA (ad 18) (ad 48) 16 (g 18)) (w1 := rowW cA (ad 18) (ad 48) 16 (g 18)) (ws1 := yrW cA ad g z) hx hb hml hown hT hK hP hD hS hA (c_X3_atN l D cA (ad 18) (ad 48) 16 (g 18) k (by omega) (by omega)) k_X3_at kl_X4_54 (q0 := 0) rfl rfl rfl [13, 14] rfl rfl rfl rfl hl rfl rfl (Nat.le_of_ble_eq_true rfl) ⟨⟨rfl, rfl⟩, Nat.le_of_ble_eq_true rfl, Nat.le_of_ble_eq_true rfl⟩ ⟨Nat.zero_le _, Nat.zero_le _⟩ dX4_countMoved_42 (fun H locs hP hD hS => ?_)
          refine lv_icmp_eq (tgt := 51) hx hb dX4_countMoved_45 (by decide) (fun c_45 => ?_) (fun c_45 => ?_)
          · have hl9 : lv_has ls 3 [(0, .ref (ad 71)), (1, .int (nI (mvd (g 19) (g 20) (g 17) (g 18) (k + 1)))), (2, .int (nI k))] := lv_cast (l := [(0, .ref (ad 71)), (1, .int (nI (mvd (g 19) (g 20) (g 17) (g 18) k))), (2, .int (nI k))]) (lv_sub hl [0, 1, 2] rfl) (by
              have e9 : (nI (mvd (g 19) (g 20) (g 17) (g 18) k)) = (nI (mvd (g 19) (g 20) (g 17) (g 18) (k + 1))) := by first | rw [mvd_s c_26 c_45] | rw [mvd_n (fun h => c_26 h.1)] | rw [mvd_n (fun h => c_45 h.2)]
              rw [e9])
            exact J51   _ _ _ hP hD hS hl9
          · refine lv_iinc (v := nI ((mvd (g 19) (g 20) (g 17) (g 18) k) + 1)) (lv' := [(1, .int (nI ((mvd (g 19) (g 20) (g 17) (g 18) k) + 1))), (0, .ref (ad 71)), (2, .int (nI k))]) hx hb dX4_countMoved_48 hl (k := 1) rfl (q_inc1 _) (by decide) rfl (fun ls hl => ?_)
            exact J51   _ _ _ hP hD hS (lv_sub hl [1, 0, 2] rfl)
  refine lv_iconst (v := nI 0) hx hb dX4_countMoved_0 (by decide +kernel) ?_
  refine lv_istore_n (lv' := [(1, .int (nI 0)), (0, .ref (ad 71))]) hx hb dX4_countMoved_1 rfl hl (by decide) rfl (fun ls hl => ?_)
  refine lv_iconst (v := nI 0) hx hb dX4_countMoved_2 (by decide +kernel) ?_
  refine lv_istore_n (lv' := [(2, .int (nI 0)), (1, .int (nI 0)), (0, .ref (ad 71))]) hx hb dX4_countMoved_3 rfl hl (by decide) rfl (fun ls hl => ?_)
  have hl9 : lv_has ls 3 [(0, .ref (ad 71)), (1, .int (nI (mvd (g 19) (g 20) (g 17) (g 18) 0))), (2, .int (nI 0))] := lv_cast (l := [(0, .ref (ad 71)), (1, .int (nI 0)), (2, .int (nI 0))]) (lv_sub hl [2, 1, 0] rfl) (by
    have e9 : (nI 0) = (nI (mvd (g 19) (g 20) (g 17) (g 18) 0)) := by rfl
    rw [e9])
  exact L4 (16 + 1) 0 (by omega) (by omega) _ _ _ hP hD hS hl9
