/-! one pass over the first k tellings: first years go up, last years go down; both apart -/
def psF (a b w F : Nat → Int32) : Nat → Nat → Int32
  | 0 => F
  | k + 1 => if psF a b w F k (q_n (b k)) < psF a b w F k (q_n (a k)) + w k then upd (psF a b w F k) (q_n (b k)) (psF a b w F k (q_n (a k)) + w k) else psF a b w F k
def psL (a b w L : Nat → Int32) : Nat → Nat → Int32
  | 0 => L
  | k + 1 => if psL a b w L k (q_n (b k)) - w k < psL a b w L k (q_n (a k)) then upd (psL a b w L k) (q_n (a k)) (psL a b w L k (q_n (b k)) - w k) else psL a b w L k
/-- whether something was pushed -/
def psC (a b w F L : Nat → Int32) : Nat → Bool
  | 0 => false
  | k + 1 => psC a b w F L k || decide (psF a b w F k (q_n (b k)) < psF a b w F k (q_n (a k)) + w k) || decide (psL a b w L k (q_n (b k)) - w k < psL a b w L k (q_n (a k)))
/-- so many passes -/
def itF (a b w F : Nat → Int32) (t : Nat) : Nat → Nat → Int32
  | 0 => F
  | r + 1 => psF a b w (itF a b w F t r) t
def itL (a b w L : Nat → Int32) (t : Nat) : Nat → Nat → Int32
  | 0 => L
  | r + 1 => psL a b w (itL a b w L t r) t
def itC (a b w F L : Nat → Int32) (t : Nat) (r : Nat) : Bool := psC a b w (itF a b w F t r) (itL a b w L t r) t
theorem psF_t {a b w F : Nat → Int32} {k : Nat} (h : psF a b w F k (q_n (b k)) < psF a b w F k (q_n (a k)) + w k) : upd (psF a b w F k) (q_n (b k)) (psF a b w F k (q_n (a k)) + w k) = psF a b w F (k + 1) := by rw [psF, if_pos h]
theorem psF_f {a b w F : Nat → Int32} {k : Nat} (h : ¬ psF a b w F k (q_n (b k)) < psF a b w F k (q_n (a k)) + w k) : psF a b w F k = psF a b w F (k + 1) := by rw [psF, if_neg h]
theorem psL_t {a b w L : Nat → Int32} {k : Nat} (h : psL a b w L k (q_n (b k)) - w k < psL a b w L k (q_n (a k))) : upd (psL a b w L k) (q_n (a k)) (psL a b w L k (q_n (b k)) - w k) = psL a b w L (k + 1) := by rw [psL, if_pos h]
theorem psL_f {a b w L : Nat → Int32} {k : Nat} (h : ¬ psL a b w L k (q_n (b k)) - w k < psL a b w L k (q_n (a k))) : psL a b w L k = psL a b w L (k + 1) := by rw [psL, if_neg h]
/-- a pass without a push moves nothing -/
theorem ps_0 (a b w F L : Nat → Int32) : ∀ k, psC a b w F L k = false → psF a b w F k = F ∧ psL a b w L k = L
  | 0, _ => ⟨rfl, rfl⟩
  | k + 1, h => by
    simp only [psC, Bool.or_eq_false_iff, decide_eq_false_iff_not] at h
    obtain ⟨h1, h2⟩ := ps_0 a b w F L k h.1.1
    exact ⟨by rw [psF, if_neg h.1.2, h1], by rw [psL, if_neg h.2, h2]⟩
theorem it_0 {a b w F L : Nat → Int32} {t r : Nat} (h : itC a b w F L t r = false) : ∀ m, itF a b w F t (r + m) = itF a b w F t r ∧ itL a b w L t (r + m) = itL a b w L t r
  | 0 => ⟨rfl, rfl⟩
  | m + 1 => by
    obtain ⟨h1, h2⟩ := it_0 h m
    obtain ⟨h3, h4⟩ := ps_0 _ _ _ _ _ t h
    refine ⟨?_, ?_⟩
    · show psF a b w (itF a b w F t (r + m)) t = _
      rw [h1, h3]
    · show psL a b w (itL a b w L t (r + m)) t = _
      rw [h2, h4]
theorem it_16 {a b w F L : Nat → Int32} {t r : Nat} (h : itC a b w F L t r = false) (hr : r < 16) : itF a b w F t (r + 1) = itF a b w F t 16 ∧ itL a b w L t (r + 1) = itL a b w L t 16 := by
  obtain ⟨h1, h2⟩ := it_0 h (16 - r)
  obtain ⟨h3, h4⟩ := it_0 h 1
  rw [show r + (16 - r) = 16 by omega] at h1 h2
  exact ⟨by rw [h3, h1], by rw [h4, h2]⟩
/-- it comes to rest within sixteen passes -/
def itRn (a b w F L : Nat → Int32) (t : Nat) : Nat → Bool
  | 0 => false
  | r + 1 => itRn a b w F L t r || !itC a b w F L t r
def itR (a b w F L : Nat → Int32) (t : Nat) : Bool := itRn a b w F L t 16
theorem itRn_iff {a b w F L : Nat → Int32} {t : Nat} : ∀ n, itRn a b w F L t n = true ↔ ∃ r, r < n ∧ itC a b w F L t r = false
  | 0 => by simp [itRn]
  | n + 1 => by
    rw [itRn, Bool.or_eq_true, itRn_iff n, Bool.not_eq_true']
    constructor
    · rintro (⟨r, h1, h2⟩ | h)
      · exact ⟨r, by omega, h2⟩
      · exact ⟨n, by omega, h⟩
    · rintro ⟨r, h1, h2⟩
      rcases Nat.lt_or_ge r n with q | q
      · exact Or.inl ⟨r, q, h2⟩
      · rw [show r = n by omega] at h2
        exact Or.inr h2
theorem itR_iff {a b w F L : Nat → Int32} {t : Nat} : itR a b w F L t = true ↔ ∃ r, r < 16 ∧ itC a b w F L t r = false := itRn_iff 16
theorem itR_t {a b w F L : Nat → Int32} {t r : Nat} (hr : r < 16) (h : itC a b w F L t r = false) : itR a b w F L t = true := itR_iff.2 ⟨r, hr, h⟩
theorem itR_f {a b w F L : Nat → Int32} {t : Nat} (h : ∀ r, r < 16 → itC a b w F L t r = true) : itR a b w F L t = false := by
  cases hb : itR a b w F L t with
  | false => rfl
  | true =>
    obtain ⟨r, h1, h2⟩ := itR_iff.1 hb
    rw [h r h1] at h2
    cases h2
/-- first years are not above last years, in the first k -/
def leB (F L : Nat → Int32) (k : Nat) : Bool := decide (∀ j, j < k → F j ≤ L j)
theorem leB_t {F L : Nat → Int32} {k : Nat} (h : ∀ j, j < k → F j ≤ L j) : leB F L k = true := decide_eq_true h
theorem leB_f {F L : Nat → Int32} {k j : Nat} (hj : j < k) (h : ¬ F j ≤ L j) : leB F L k = false := decide_eq_false (fun z => h (z j hj))
/-- how many are moved, of the first k -/
def mvd (F L F0 L0 : Nat → Int32) : Nat → Nat
  | 0 => 0
  | k + 1 => if F k = F0 k ∧ L k = L0 k then mvd F L F0 L0 k else mvd F L F0 L0 k + 1
theorem mvd_le (F L F0 L0 : Nat → Int32) : ∀ k, mvd F L F0 L0 k ≤ k
  | 0 => Nat.le_refl 0
  | k + 1 => by
    have := mvd_le F L F0 L0 k
    simp only [mvd]
    split <;> omega
theorem mvd_s {F L F0 L0 : Nat → Int32} {k : Nat} (h : F k = F0 k) (h2 : L k = L0 k) : mvd F L F0 L0 k = mvd F L F0 L0 (k + 1) := by rw [mvd, if_pos ⟨h, h2⟩]
theorem mvd_n {F L F0 L0 : Nat → Int32} {k : Nat} (h : ¬ (F k = F0 k ∧ L k = L0 k)) : mvd F L F0 L0 k + 1 = mvd F L F0 L0 (k + 1) := by rw [mvd, if_neg h]
theorem q_nlt3 {x y : Int32} (h : x ≤ y) : ¬ y < x := by
  rw [Int32.le_iff_toInt_le] at h
  rw [Int32.lt_iff_toInt_lt]
  omega
theorem q_lt3 {x y : Int32} (h : ¬ x ≤ y) : y < x := by
  rw [Int32.le_iff_toInt_le] at h
  rw [Int32.lt_iff_toInt_lt]
  omega
theorem q_sub1 (n : Nat) : nI (n + 1) - nI 1 = nI n := by rw [pk_sub (by omega)]; rfl
theorem hE_add {a b : Nat → Int32} {t i j : Nat} (h : ∀ k, k < t → q_r (a k) 16 ∧ q_r (b k) 16) (hi : i < 16) (hj : j < 16) : ∀ k, k < t + 1 → q_r (upd a t (nI i) k) 16 ∧ q_r (upd b t (nI j) k) 16 := by
  intro k hk
  by_cases e : k = t
  · subst e; simp only [upd, if_true]; exact ⟨q_r_nI hi, q_r_nI hj⟩
  · simp only [upd, e, if_false]; exact h k (by omega)
theorem upd_back {f : Nat → Int32} {k : Nat} {x : Int32} : upd (upd f k x) k (f k) = f := by
  funext j
  simp only [upd]
  by_cases e : j = k
  · simp [e]
  · simp [e]
/-- is there a dating; how many it moves; the answer -/
def dOK (a b w lo hi : Nat → Int32) (t : Nat) : Bool := itR a b w lo hi t && leB (itF a b w lo t 16) (itL a b w hi t 16) 16
def dMV (a b w lo hi F0 L0 : Nat → Int32) (t : Nat) : Nat := mvd (itF a b w lo t 16) (itL a b w hi t 16) F0 L0 16
theorem dMV_le {a b w lo hi F0 L0 : Nat → Int32} {t : Nat} : dMV a b w lo hi F0 L0 t ≤ 16 := mvd_le _ _ _ _ 16
def vd (ok : Bool) (n : Nat) : Int32 := bif ok then nI n else (-1)
theorem vd_t {ok : Bool} {n : Nat} (h : ok = true) : nI n = vd ok n := by rw [h]; rfl
theorem vd_f {ok : Bool} {n : Nat} (h : ok = false) : (-1) = vd ok n := by rw [h]; rfl
theorem vd_m1 {ok : Bool} {n : Nat} (hn : n ≤ 16) (h : vd ok n = (-1)) : ok = false := by
  cases ok with
  | false => rfl
  | true =>
    exfalso
    have h2 : nI n = (-1) := h
    have h3 := nI_toInt (n := n) (by omega)
    rw [h2] at h3
    have h4 : ((-1 : Int32)).toInt = -1 := by decide
    omega
theorem vd_ok {ok : Bool} {n : Nat} (h : ¬ vd ok n = (-1)) : ok = true := by
  cases ok with
  | true => rfl
  | false => exact absurd rfl h
theorem dOK_t {a b w lo hi : Nat → Int32} {t : Nat} (h1 : itR a b w lo hi t = true) (h2 : leB (itF a b w lo t 16) (itL a b w hi t 16) 16 = true) : dOK a b w lo hi t = true := by rw [dOK, h1, h2]; rfl
theorem dOK_f1 {a b w lo hi : Nat → Int32} {t : Nat} (h1 : itR a b w lo hi t = false) : dOK a b w lo hi t = false := by rw [dOK, h1]; rfl
theorem dOK_f2 {a b w lo hi : Nat → Int32} {t : Nat} (h2 : leB (itF a b w lo t 16) (itL a b w hi t 16) 16 = false) : dOK a b w lo hi t = false := by rw [dOK, h2, Bool.and_false]
def mx (x y : Int32) : Int32 := if x < y then y else x
def mn (x y : Int32) : Int32 := if y < x then y else x
abbrev rm_X4_isFullyTold : Room := { frames := 0, cells := 0, slots := 0, locals := 0 }
set_option maxRecDepth 100000 in
set_option maxHeartbeats 4000000 in
theorem c_X4_isFullyTold (l : Launch) (D : va_G) (cA : ClassId) (ad : Nat → Nat) (g : Nat → Nat → Int32) (z : Nat → Nat)  (ht : (z 1) ≤ 40) : q_CI l yX4_isFullyTold [Cond.code yX4_isFullyTold cX4_isFullyTold 1 (some .boolean)] rm_X4_isFullyTold D cA [.ref (ad 71)] (yrW cA ad g z) (q_b (decide (40 ≤ (z 1)))) (yrW cA ad g z) := by
  refine q_startI RX4 (by decide +kernel) rfl (Nat.le_of_ble_eq_true rfl) ?_
  intro p e s m below meth c A args H locs ls hx hb hr hml hown hT hlk hP hK hD hA hS hl
  have hl : lv_has ls 1 [(0, .ref (ad 71))] := hl
  refine lv_aload_n hx hb dX4_isFullyTold_0 rfl (lv_at hl 0 rfl) ?_
  refine q_get hx hb hT hown hK hP kw_X4 0 rfl rfl 10 (by decide) kf_X4_50 rfl (v := .int (nI (z 1))) rfl dX4_isFullyTold_1 ?_
  refine lv_bipush (v := nI 40) hx hb dX4_isFullyTold_4 (by decide +kernel) ?_
  refine lv_icmp_lt (tgt := 13) hx hb dX4_isFullyTold_6 (by decide) (fun c_6 => ?_) (fun c_6 => ?_)
  · have c_6 := nI_lt1 (a := z 1) (b := 40) (by omega) (by omega) c_6
    refine lv_iconst (v := nI 0) hx hb dX4_isFullyTold_13 (by decide +kernel) ?_
    exact q_zret hx hb hr hlk (Or.inl rfl) (by first | exact q_bt (decide_eq_true c_6) | exact q_bf (decide_eq_false (by omega))) hP hS dX4_isFullyTold_14
  · have c_6 := nI_lt0 (a := z 1) (b := 40) (by omega) (by omega) c_6
    refine lv_iconst (v := nI 1) hx hb dX4_isFullyTold_9 (by decide +kernel) ?_
    refine lv_goto (tgt := 14) hx hb dX4_isFullyTold_10 (by decide) ?_
    exact q_zret hx hb hr hlk (Or.inr rfl) (by first | exact q_bt (decide_eq_true c_6) | exact q_bf (decide_eq_false (by omega))) hP hS dX4_isFullyTold_14
abbrev rm_X4_firstOf : Room := { frames := 1, cells := 0, slots := 0, locals := 21 }
set_option maxRecDepth 100000 in
set_option maxHeartbeats 4000000 in
theorem c_X4_firstOf (l : Launch) (D : va_G) (cA : ClassId) (ad : Nat → Nat) (g : Nat → Nat → Int32) (z : Nat → Nat) (k : Nat) (hk : k < 16) : q_CI l yX4_firstOf [Cond.code yX4_firstOf cX4_firstOf 2 (some .int)] rm_X4_firstOf D cA [.ref (ad 71), .int (nI k)] (yrW cA ad g z) ((g 17) k) (yrW cA ad g z) := by
  refine q_startI RX4 (by decide +kernel) rfl (Nat.le_of_ble_eq_true rfl) ?_
  intro p e s m below meth c A args H locs ls hx hb hr hml hown hT hlk hP hK hD hA hS hl
  have hl : lv_has ls 2 [(0, .ref (ad 71)), (1, .int (nI k))] := hl
  refine lv_aload_n hx hb dX4_firstOf_0 rfl (lv_at hl 0 rfl) ?_
  refine q_get hx hb hT hown hK hP kw_X4 0 rfl rfl 5 (by decide) kf_X4_32 rfl (v := .ref (ad 17)) rfl dX4_firstOf_1 ?_
  refine lv_iload_n hx hb dX4_firstOf_4 rfl (lv_at hl 1 rfl) ?_
  refine q_callI (As := [.int (nI k)]) (r := g 17 k) (wc := rowW cA (ad 17) (ad 47) 16 (g 17)) (w1 := rowW cA (ad 17) (ad 47) 16 (g 17)) (ws1 := yrW cA ad g z) hx hb hml hown hT hK hP hD hS hA (c_X3_atN l D cA (ad 17) (ad 47) 16 (g 17) k (by omega) (by omega)) k_X3_at kl_X4_54 (q0 := 0) rfl rfl rfl [11, 12] rfl rfl rfl rfl hl rfl rfl (Nat.le_of_ble_eq_true rfl) ⟨⟨rfl, rfl⟩, Nat.le_of_ble_eq_true rfl, Nat.le_of_ble_eq_true rfl⟩ ⟨Nat.zero_le _, Nat.zero_le _⟩ dX4_firstOf_5 (fun H locs hP hD hS => ?_)
  exact q_iret hx hb hr hlk (by rfl) hP hS dX4_firstOf_8
abbrev rm_X4_lastOf : Room := { frames := 1, cells := 0, slots := 0, locals := 21 }
set_option maxRecDepth 100000 in
set_option maxHeartbeats 4000000 in
theorem c_X4_lastOf (l : Launch) (D : va_G) (cA : ClassId) (ad : Nat → Nat) (g : Nat → Nat → Int32) (z : Nat → Nat) (k : Nat) (hk : k < 16) : q_CI l yX4_lastOf [Cond.code yX4_lastOf cX4_lastOf 2 (some .int)] rm_X4_lastOf D cA [.ref (ad 71), .int (nI k)] (yrW cA ad g z) ((g 18) k) (yrW cA ad g z) := by
  refine q_startI RX4 (by decide +kernel) rfl (Nat.le_of_ble_eq_true rfl) ?_
  intro p e s m below meth c A args H locs ls hx hb hr hml hown hT hlk hP hK hD hA hS hl
  have hl : lv_has ls 2 [(0, .ref (ad 71)), (1, .int (nI k))] := hl
  refine lv_aload_n hx hb dX4_lastOf_0 rfl (lv_at hl 0 rfl) ?_
  refine q_get hx hb hT hown hK hP kw_X4 0 rfl rfl 6 (by decide) kf_X4_35 rfl (v := .ref (ad 18)) rfl dX4_lastOf_1 ?_
  refine lv_iload_n hx hb dX4_lastOf_4 rfl (lv_at hl 1 rfl) ?_
  refine q_callI (As := [.int (nI k)]) (r := g 18 k) (wc := rowW cA (ad 18) (ad 48) 16 (g 18)) (w1 := rowW cA (ad 18) (ad 48) 16 (g 18)) (ws1 := yrW cA ad g z) hx hb hml hown hT hK hP hD hS hA (c_X3_atN l D cA (ad 18) (ad 48) 16 (g 18) k (by omega) (by omega)) k_X3_at kl_X4_54 (q0 := 0) rfl rfl rfl [13, 14] rfl rfl rfl rfl hl rfl rfl (Nat.le_of_ble_eq_true rfl) ⟨⟨rfl, rfl⟩, Nat.le_of_ble_eq_true rfl, Nat.le_of_ble_eq_true rfl⟩ ⟨Nat.zero_le _, Nat.zero_le _⟩ dX4_lastOf_5 (fun H locs hP hD hS => ?_)
  exact q_iret hx hb hr hlk (by rfl) hP hS dX4_lastOf_8
abbrev rm_X4_isCertain : Room := { frames := 1, cells := 0, slots := 0, locals := 21 }
set_option maxRecDepth 100000 in
set_option maxHeartbeats 4000000 in
theorem c_X4_isCertain (l : Launch) (D : va_G) (cA : ClassId) (ad : Nat → Nat) (g : Nat → Nat → Int32) (z : Nat → Nat) (k : Nat) (hk : k < 16) : q_CI l yX4_isCertain [Cond.code yX4_isCertain cX4_isCertain 2 (some .boolean)] rm_X4_isCertain D cA [.ref (ad 71), .int (nI k)] (yrW cA ad g z) (q_b (decide ((g 17) k = (g 18) k))) (yrW cA ad g z) := by
  refine q_startI RX4 (by decide +kernel) rfl (Nat.le_of_ble_eq_true rfl) ?_
  intro p e s m below meth c A args H locs ls hx hb hr hml hown hT hlk hP hK hD hA hS hl
  have hl : lv_has ls 2 [(0, .ref (ad 71)), (1, .int (nI k))] := hl
  refine lv_aload_n hx hb dX4_isCertain_0 rfl (lv_at hl 0 rfl) ?_
  refine q_get hx hb hT hown hK hP kw_X4 0 rfl rfl 5 (by decide) kf_X4_32 rfl (v := .ref (ad 17)) rfl dX4_isCertain_1 ?_
  refine lv_iload_n hx hb dX4_isCertain_4 rfl (lv_at hl 1 rfl) ?_
  refine q_callI (As := [.int (nI k)]) (r := g 17 k) (wc := rowW cA (ad 17) (ad 47) 16 (g 17)) (w1 := rowW cA (ad 17) (ad 47) 16 (g 17)) (ws1 := yrW cA ad g z) hx hb hml hown hT hK hP hD hS hA (c_X3_atN l D cA (ad 17) (ad 47) 16 (g 17) k (by omega) (by omega)) k_X3_at kl_X4_54 (q0 := 0) rfl rfl rfl [11, 12] rfl rfl rfl rfl hl rfl rfl (Nat.le_of_ble_eq_true rfl) ⟨⟨rfl, rfl⟩, Nat.le_of_ble_eq_true rfl, Nat.le_of_ble_eq_true rfl⟩ ⟨Nat.zero_le _, Nat.zero_le _⟩ dX4_isCertain_5 (fun H locs hP hD hS => ?_)
  refine lv_aload_n hx hb dX4_isCertain_8 rfl (lv_at hl 0 rfl) ?_
  refine q_get hx hb hT hown hK hP kw_X4 0 rfl rfl 6 (by decide) kf_X4_35 rfl (v := .ref (ad 18)) rfl dX4_isCertain_9 ?_
  refine lv_iload_n hx hb dX4_isCertain_12 rfl (lv_at hl 1 rfl) ?_
  refine q_callI (As := [.int (nI k)]) (r := g 18 k) (wc := rowW cA (ad 18) (ad 48) 16 (g 18)) (w1 := rowW cA (ad 18) (ad 48) 16 (g 18)) (ws1 := yrW cA ad g z) hx hb hml hown hT hK hP hD hS hA (c_X3_atN l D cA (ad 18) (ad 48) 16 (g 18) k (by omega) (by omega)) k_X3_at kl_X4_54 (q0 := 0) rfl rfl rfl [13, 14] rfl rfl rfl rfl hl rfl rfl (Nat.le_of_ble_eq_true rfl) ⟨⟨rfl, rfl⟩, Nat.le_of_ble_eq_true rfl, Nat.le_of_ble_eq_true rfl⟩ ⟨Nat.zero_le _, Nat.zero_le _⟩ dX4_isCertain_13 (fun H locs hP hD hS => ?_)
  refine lv_icmp_ne (tgt := 23) hx hb dX4_isCertain_16 (by decide) (fun c_16 => ?_) (fun c_16 => ?_)
  · refine lv_iconst (v := nI 0) hx hb dX4_isCertain_23 (by decide +kernel) ?_
    exact q_zret hx hb hr hlk (Or.inl rfl) (by first | exact q_bt (decide_eq_true c_16) | exact q_bf (decide_eq_false c_16)) hP hS dX4_isCertain_24
  · refine lv_iconst (v := nI 1) hx hb dX4_isCertain_19 (by decide +kernel) ?_
    refine lv_goto (tgt := 24) hx hb dX4_isCertain_20 (by decide) ?_
    exact q_zret hx hb hr hlk (Or.inr rfl) (by first | exact q_bt (decide_eq_true c_16) | exact q_bf (decide_eq_false c_16)) hP hS dX4_isCertain_24
