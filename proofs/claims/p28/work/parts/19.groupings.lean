theorem nx_and' (a b : Nat) : nI a &&& nI b = nI (a &&& b) := by
  apply Int32.toBitVec_inj.mp
  show BitVec.ofNat 32 a &&& BitVec.ofNat 32 b = BitVec.ofNat 32 (a &&& b)
  apply BitVec.eq_of_getLsbD_eq
  intro i hi
  simp [BitVec.getLsbD_and, BitVec.getLsbD_ofNat, hi]
theorem nx_xor' (a b : Nat) : nI a ^^^ nI b = nI (a ^^^ b) := by
  apply Int32.toBitVec_inj.mp
  show BitVec.ofNat 32 a ^^^ BitVec.ofNat 32 b = BitVec.ofNat 32 (a ^^^ b)
  apply BitVec.eq_of_getLsbD_eq
  intro i hi
  simp [BitVec.getLsbD_xor, BitVec.getLsbD_ofNat, hi]
/-- sums over the pairs that are together -/
def inS (tg : Nat → Nat → Bool) (pw : Nat → Int32) (i : Nat) : Nat → Int32
  | 0 => nI 0
  | j + 1 => if i < j ∧ tg i j = true then inS tg pw i j + pw (i * 6 + j) else inS tg pw i j
def ouS (tg : Nat → Nat → Bool) (pw : Nat → Int32) (n : Nat) : Nat → Int32
  | 0 => nI 0
  | i + 1 => ouS tg pw n i + inS tg pw i n
/-- a pair that is together is not right, among the first -/
def badP (tg : Nat → Nat → Bool) (pw : Nat → Int32) (i j : Nat) : Prop := i < j ∧ tg i j = true ∧ pw (i * 6 + j) = (-1000000)
def badI (tg : Nat → Nat → Bool) (pw : Nat → Int32) (i : Nat) : Nat → Bool
  | 0 => false
  | j + 1 => badI tg pw i j || decide (i < j ∧ tg i j = true ∧ pw (i * 6 + j) = (-1000000))
def badO (tg : Nat → Nat → Bool) (pw : Nat → Int32) (n : Nat) : Nat → Bool
  | 0 => false
  | i + 1 => badO tg pw n i || badI tg pw i n
def wOf (tg : Nat → Nat → Bool) (pw : Nat → Int32) (n : Nat) : Int32 := bif badO tg pw n n then (-1000000) else ouS tg pw n n
theorem badI_iff {tg : Nat → Nat → Bool} {pw : Nat → Int32} {i : Nat} : ∀ n, badI tg pw i n = true ↔ ∃ j, j < n ∧ badP tg pw i j
  | 0 => by simp [badI]
  | n + 1 => by
    rw [badI, Bool.or_eq_true, badI_iff n, decide_eq_true_iff]
    constructor
    · rintro (⟨j, h1, h2⟩ | h)
      · exact ⟨j, by omega, h2⟩
      · exact ⟨n, by omega, h⟩
    · rintro ⟨j, h1, h2⟩
      rcases Nat.lt_or_ge j n with q | q
      · exact Or.inl ⟨j, q, h2⟩
      · rw [show j = n by omega] at h2
        exact Or.inr h2
theorem badO_iff {tg : Nat → Nat → Bool} {pw : Nat → Int32} {n : Nat} : ∀ m, badO tg pw n m = true ↔ ∃ i j, i < m ∧ j < n ∧ badP tg pw i j
  | 0 => by simp [badO]
  | m + 1 => by
    rw [badO, Bool.or_eq_true, badO_iff m, badI_iff n]
    constructor
    · rintro (⟨i, j, h1, h2, h3⟩ | ⟨j, h1, h2⟩)
      · exact ⟨i, j, by omega, h2, h3⟩
      · exact ⟨m, j, by omega, h1, h2⟩
    · rintro ⟨i, j, h1, h2, h3⟩
      rcases Nat.lt_or_ge i m with q | q
      · exact Or.inl ⟨i, j, q, h2, h3⟩
      · rw [show i = m by omega] at h3
        exact Or.inr ⟨j, h2, h3⟩
theorem wOf_bad {tg : Nat → Nat → Bool} {pw : Nat → Int32} {n i j : Nat} (hi : i < n) (hj : j < n) (h : badP tg pw i j) : (-1000000) = wOf tg pw n := by
  rw [wOf, badO_iff n |>.2 ⟨i, j, hi, hj, h⟩]; rfl
theorem wOf_ok {tg : Nat → Nat → Bool} {pw : Nat → Int32} {n : Nat} (h : ∀ i j, i < n → j < n → ¬ badP tg pw i j) : ouS tg pw n n = wOf tg pw n := by
  have : badO tg pw n n = false := by
    cases hb : badO tg pw n n with
    | false => rfl
    | true =>
      obtain ⟨i, j, h1, h2, h3⟩ := (badO_iff n).1 hb
      exact absurd h3 (h i j h1 h2)
  rw [wOf, this]; rfl
theorem inS_0 {tg : Nat → Nat → Bool} {pw : Nat → Int32} {i : Nat} : ∀ j, j ≤ i + 1 → inS tg pw i j = nI 0
  | 0, _ => rfl
  | j + 1, h => by rw [inS, if_neg (fun z => by omega), inS_0 j (by omega)]
theorem add_nI0 (x : Int32) : x + nI 0 = x := Int32.add_zero x
theorem inS_t {tg : Nat → Nat → Bool} {pw : Nat → Int32} {i j : Nat} (x : Int32) (hij : i < j) (h : tg i j = true) : (x + inS tg pw i j) + pw (i * 6 + j) = x + inS tg pw i (j + 1) := by rw [inS, if_pos ⟨hij, h⟩, Int32.add_assoc]
theorem inS_f {tg : Nat → Nat → Bool} {pw : Nat → Int32} {i j : Nat} (x : Int32) (h : tg i j = false) : (x + inS tg pw i j) + nI 0 = x + inS tg pw i (j + 1) := by rw [inS, if_neg (fun z => by rw [h] at z; cases z.2), add_nI0]
def setT (x : Int32) (i j : Nat) : Bool := decide (¬ ((x >>> (nI i &&& 31)) &&& (x >>> (nI j &&& 31))) &&& nI 1 = 0)
def groT (gr : Nat → Int32) (i j : Nat) : Bool := decide (gr i = gr j)
/-- lowest bit, below 64 -/
def lowB (n : Nat) : Nat := if n % 2 = 1 then 1 else if n % 4 = 2 then 2 else if n % 8 = 4 then 4 else if n % 16 = 8 then 8 else if n % 32 = 16 then 16 else if n % 64 = 32 then 32 else 0
theorem lowB_neg : ∀ n, n < 64 → nI n &&& (-(nI n)) = nI (lowB n) := by decide +kernel
theorem lowB_lt : ∀ n, n < 64 → lowB n < 64 ∧ lowB n ≤ n := by decide +kernel
theorem lowB_and : ∀ n, n < 64 → ∀ k, k < lowB n → k &&& lowB n = 0 := by decide +kernel
theorem pw2_m1 : ∀ n, n ≤ 6 → (nI 1 <<< (nI n &&& 31)) - nI 1 = nI (2 ^ n - 1) := by decide +kernel
theorem pw2_le : ∀ n, n ≤ 6 → 2 ^ n ≤ 64 ∧ 1 ≤ 2 ^ n := by decide +kernel
/-- a part of the set with its least member -/
def prt (n k : Nat) : Bool := decide (k &&& n = k ∧ ¬ k &&& lowB n = 0)
def bosN (gw be : Nat → Int32) (n : Nat) : Nat → Int32
  | 0 => (-1000000)
  | k + 1 => if prt n k = true ∧ ¬ gw k = (-1000000) then mx (bosN gw be n k) (gw k + be (n ^^^ k)) else bosN gw be n k
def bos (gw be : Nat → Int32) (n : Nat) : Int32 := bosN gw be n (n + 1)
theorem bosN_0 {gw be : Nat → Int32} {n : Nat} (hn : n < 64) : ∀ k, k ≤ lowB n → bosN gw be n k = (-1000000)
  | 0, _ => rfl
  | k + 1, h => by
    rw [bosN, if_neg (fun z => by
      have h1 := z.1
      simp only [prt, decide_eq_true_eq] at h1
      exact h1.2 (lowB_and n hn k (by omega))), bosN_0 hn k (by omega)]
theorem bosN_t {gw be : Nat → Int32} {n k : Nat} (h : prt n k = true) (h2 : ¬ gw k = (-1000000)) : mx (bosN gw be n k) (gw k + be (n ^^^ k)) = bosN gw be n (k + 1) := by rw [bosN, if_pos ⟨h, h2⟩]
theorem bosN_f {gw be : Nat → Int32} {n k : Nat} (h : prt n k = false) : bosN gw be n k = bosN gw be n (k + 1) := by rw [bosN, if_neg (fun z => by rw [h] at z; cases z.1)]
theorem bosN_f2 {gw be : Nat → Int32} {n k : Nat} (h : gw k = (-1000000)) : bosN gw be n k = bosN gw be n (k + 1) := by rw [bosN, if_neg (fun z => z.2 h)]
def bpG (pw gw : Nat → Int32) (n : Nat) : Nat → Nat → Int32
  | 0 => gw
  | k + 1 => upd (bpG pw gw n k) (k + 1) (wOf (setT (nI (k + 1))) pw n)
def bpB (pw gw be : Nat → Int32) (n : Nat) : Nat → Nat → Int32
  | 0 => upd be 0 (nI 0)
  | k + 1 => upd (bpB pw gw be n k) (k + 1) (bos (bpG pw gw n (k + 1)) (bpB pw gw be n k) (k + 1))
/-- the greatest group among the first k -/
def ggb (gr : Nat → Int32) : Nat → Int32
  | 0 => nI 0
  | k + 1 => mx (ggb gr k) (gr k)
/-- the next grouping: from place k - 1 down -/
def goG (gr : Nat → Int32) : Nat → Nat → Int32
  | 0 => gr
  | k + 1 => if k = 0 then gr else if gr k ≤ ggb gr k then upd gr k (gr k + nI 1) else goG (upd gr k (nI 0)) k
def goB (gr : Nat → Int32) : Nat → Bool
  | 0 => false
  | k + 1 => if k = 0 then false else if gr k ≤ ggb gr k then true else goB (upd gr k (nI 0)) k
theorem goG_1 {gr : Nat → Int32} {k : Nat} (h : k ≤ 1) : goG gr k = gr ∧ goB gr k = false := by
  match k, h with
  | 0, _ => exact ⟨rfl, rfl⟩
  | 1, _ => exact ⟨by rw [goG, if_pos rfl], by rw [goB, if_pos rfl]⟩
theorem goG_t {gr : Nat → Int32} {k : Nat} (hk : 0 < k) (h : gr k ≤ ggb gr k) : goG gr (k + 1) = upd gr k (gr k + nI 1) ∧ goB gr (k + 1) = true := ⟨by rw [goG, if_neg (by omega), if_pos h], by rw [goB, if_neg (by omega), if_pos h]⟩
theorem goG_f {gr : Nat → Int32} {k : Nat} (hk : 0 < k) (h : ¬ gr k ≤ ggb gr k) : goG gr (k + 1) = goG (upd gr k (nI 0)) k ∧ goB gr (k + 1) = goB (upd gr k (nI 0)) k := ⟨by rw [goG, if_neg (by omega), if_neg h], by rw [goB, if_neg (by omega), if_neg h]⟩
/-- place k - 1 -/
def pm (k : Nat) : Int32 := nI k - nI 1
theorem pm_s {k : Nat} (h : 0 < k) : nI (k - 1) = pm k := (pk_sub (by omega)).symm
theorem pm_le {k : Nat} (hk : k ≤ 7) (h : pm k ≤ 0) : k ≤ 1 := by
  rcases Nat.lt_or_ge 1 k with q | q
  · exfalso
    rw [← pm_s (by omega)] at h
    exact nI_nle (by omega) (by omega) h
  · exact q
theorem pm_gt : ∀ k, k ≤ 7 → ¬ pm k ≤ 0 → 2 ≤ k := by decide +kernel
def baF (pw : Nat → Int32) (n : Nat) : Nat → (Nat → Int32) → Int32 → Int32
  | 0, _, b => b
  | f + 1, gr, b => bif goB gr n then baF pw n f (goG gr n) (mx b (wOf (groT (goG gr n)) pw n)) else b
def baG (n : Nat) : Nat → (Nat → Int32) → Nat → Int32
  | 0, gr => gr
  | f + 1, gr => bif goB gr n then baG n f (goG gr n) else goG gr n
theorem q_gt_of {x y : Int32} (h : y < x) : ¬ x ≤ y := by
  rw [Int32.lt_iff_toInt_lt] at h
  rw [Int32.le_iff_toInt_le]
  omega
theorem q_le_of {x y : Int32} (h : ¬ y < x) : x ≤ y := by
  rw [Int32.lt_iff_toInt_lt] at h
  rw [Int32.le_iff_toInt_le]
  omega
abbrev rm_X0_clear : Room := { frames := 0, cells := 0, slots := 0, locals := 0 }
set_option maxRecDepth 100000 in
set_option maxHeartbeats 4000000 in
theorem c_X0_clear (l : Launch) (D : va_G) (cA : ClassId) (ad : Nat → Nat) (g : Nat → Nat → Int32) (z : Nat → Nat)   : q_CV l yX0_clear [Cond.code yX0_clear cX0_clear 1 none] rm_X0_clear D cA [.ref (ad 73)] (gpW cA ad g z) (gpW cA ad g (zs z 3 0)) := by
  refine q_startV RX0 (by decide +kernel) rfl (Nat.le_of_ble_eq_true rfl) ?_
  intro p e s m below meth c A args H locs ls hx hb hr hml hown hT hlk hP hK hD hA hS hl
  have hl : lv_has ls 1 [(0, .ref (ad 73))] := hl
  refine lv_aload_n hx hb dX0_clear_0 rfl (lv_at hl 0 rfl) ?_
  refine lv_iconst (v := nI 0) hx hb dX0_clear_1 (by decide +kernel) ?_
  refine q_put (ty := .int) (ws1 := gpW cA ad g (zs z 3 0)) hx hb hT hown hK hP hD hS kw_X0 tyX0_ok nmX0 0 rfl rfl 5 (by decide) kf_X0_32 rfl rfl (by decide +kernel) rfl rfl (Nat.le_of_ble_eq_true rfl) rfl dX0_clear_2 (fun H locs hP hD hS => ?_)
  exact q_vret hx hb hr hlk hP hS dX0_clear_5
abbrev rm_X0_add : Room := { frames := 1, cells := 0, slots := 0, locals := 22 }
set_option maxRecDepth 100000 in
set_option maxHeartbeats 4000000 in
theorem c_X0_add (l : Launch) (D : va_G) (cA : ClassId) (ad : Nat → Nat) (g : Nat → Nat → Int32) (z : Nat → Nat) (x : Int32) (hz : (z 3) < 6) : q_CV l yX0_add [Cond.code yX0_add cX0_add 2 none] rm_X0_add D cA [.ref (ad 73), .int x] (gpW cA ad g z) (gpW cA ad (gs g 24 (upd (g 24) (z 3) x)) (zs z 3 ((z 3) + 1))) := by
  refine q_startV RX0 (by decide +kernel) rfl (Nat.le_of_ble_eq_true rfl) ?_
  intro p e s m below meth c A args H locs ls hx hb hr hml hown hT hlk hP hK hD hA hS hl
  have hl : lv_has ls 2 [(0, .ref (ad 73)), (1, .int x)] := hl
  refine lv_aload_n hx hb dX0_add_0 rfl (lv_at hl 0 rfl) ?_
  refine q_get hx hb hT hown hK hP kw_X0 0 rfl rfl 0 (by decide) kf_X0_14 rfl (v := .ref (ad 24)) rfl dX0_add_1 ?_
  refine lv_aload_n hx hb dX0_add_4 rfl (lv_at hl 0 rfl) ?_
  refine q_get hx hb hT hown hK hP kw_X0 0 rfl rfl 5 (by decide) kf_X0_32 rfl (v := .int (nI (z 3))) rfl dX0_add_5 ?_
  refine lv_iload_n hx hb dX0_add_8 rfl (lv_at hl 1 rfl) ?_
  refine q_callV (As := [.int (nI (z 3)), .int x]) (wc := rowW cA (ad 24) (ad 54) 6 (g 24)) (w1 := rowW cA (ad 24) (ad 54) 6 (upd (g 24) (z 3) x)) (ws1 := gpW cA ad (gs g 24 (upd (g 24) (z 3) x)) z) hx hb hml hown hT hK hP hD hS hA (c_X3_putN l D cA (ad 24) (ad 54) 6 (g 24) (z 3) x (by omega) (by omega)) k_X3_put kl_X0_36 (q0 := 0) rfl rfl rfl [1, 2] rfl rfl rfl rfl hl rfl rfl (Nat.le_of_ble_eq_true rfl) ⟨⟨rfl, rfl⟩, Nat.le_of_ble_eq_true rfl, Nat.le_of_ble_eq_true rfl⟩ ⟨Nat.zero_le _, Nat.zero_le _⟩ dX0_add_9 (fun H locs hP hD hS => ?_)
  obtain ⟨nF9_24, enF9_24⟩ : ∃ y : Nat → Int32, y = upd (g 24) (z 3) x := ⟨_, rfl⟩
  have hP : va_P D vwCl (gpW cA ad (gs g 24 nF9_24) z) H := by rw [enF9_24]; exact hP
  have hD : va_D A (gpW cA ad (gs g 24 nF9_24) z) := by rw [enF9_24]; exact hD
  refine lv_aload_n hx hb dX0_add_12 rfl (lv_at hl 0 rfl) ?_
  refine lv_dup hx hb dX0_add_13 rfl ?_
  refine q_get hx hb hT hown hK hP kw_X0 0 rfl rfl 5 (by decide) kf_X0_32 rfl (v := .int (nI (z 3))) rfl dX0_add_14 ?_
  refine lv_iconst (v := nI 1) hx hb dX0_add_17 (by decide +kernel) ?_
  refine lv_iadd hx hb dX0_add_18 ?_
  refine q_top (y := nI (z 3 + 1)) (nI_add _ _) ?_
  refine q_put (ty := .int) (ws1 := gpW cA ad (gs g 24 nF9_24) (zs z 3 (z 3 + 1))) hx hb hT hown hK hP hD hS kw_X0 tyX0_ok nmX0 0 rfl rfl 5 (by decide) kf_X0_32 rfl rfl (by decide +kernel) rfl rfl (Nat.le_of_ble_eq_true rfl) rfl dX0_add_19 (fun H locs hP hD hS => ?_)
  rw [enF9_24] at hP hD
  exact q_vret hx hb hr hlk (va_cast' hP (by rfl)) hS dX0_add_22
abbrev rm_X0_count : Room := { frames := 0, cells := 0, slots := 0, locals := 0 }
set_option maxRecDepth 100000 in
set_option maxHeartbeats 4000000 in
theorem c_X0_count (l : Launch) (D : va_G) (cA : ClassId) (ad : Nat → Nat) (g : Nat → Nat → Int32) (z : Nat → Nat)   : q_CI l yX0_count [Cond.code yX0_count cX0_count 1 (some .int)] rm_X0_count D cA [.ref (ad 73)] (gpW cA ad g z) (nI (z 3)) (gpW cA ad g z) := by
  refine q_startI RX0 (by decide +kernel) rfl (Nat.le_of_ble_eq_true rfl) ?_
  intro p e s m below meth c A args H locs ls hx hb hr hml hown hT hlk hP hK hD hA hS hl
  have hl : lv_has ls 1 [(0, .ref (ad 73))] := hl
  refine lv_aload_n hx hb dX0_count_0 rfl (lv_at hl 0 rfl) ?_
  refine q_get hx hb hT hown hK hP kw_X0 0 rfl rfl 5 (by decide) kf_X0_32 rfl (v := .int (nI (z 3))) rfl dX0_count_1 ?_
  exact q_iret hx hb hr hlk (by rfl) hP hS dX0_count_4
abbrev rm_X0_mentionAt : Room := { frames := 1, cells := 0, slots := 0, locals := 21 }
set_option maxRecDepth 100000 in
set_option maxHeartbeats 4000000 in
theorem c_X0_mentionAt (l : Launch) (D : va_G) (cA : ClassId) (ad : Nat → Nat) (g : Nat → Nat → Int32) (z : Nat → Nat) (k : Nat) (hk : k < 6) : q_CI l yX0_mentionAt [Cond.code yX0_mentionAt cX0_mentionAt 2 (some .int)] rm_X0_mentionAt D cA [.ref (ad 73), .int (nI k)] (gpW cA ad g z) ((g 24) k) (gpW cA ad g z) := by
  refine q_startI RX0 (by decide +kernel) rfl (Nat.le_of_ble_eq_true rfl) ?_
  intro p e s m below meth c A args H locs ls hx hb hr hml hown hT hlk hP hK hD hA hS hl
  have hl : lv_has ls 2 [(0, .ref (ad 73)), (1, .int (nI k))] := hl
  refine lv_aload_n hx hb dX0_mentionAt_0 rfl (lv_at hl 0 rfl) ?_
  refine q_get hx hb hT hown hK hP kw_X0 0 rfl rfl 0 (by decide) kf_X0_14 rfl (v := .ref (ad 24)) rfl dX0_mentionAt_1 ?_
  refine lv_iload_n hx hb dX0_mentionAt_4 rfl (lv_at hl 1 rfl) ?_
  refine q_callI (As := [.int (nI k)]) (r := g 24 k) (wc := rowW cA (ad 24) (ad 54) 6 (g 24)) (w1 := rowW cA (ad 24) (ad 54) 6 (g 24)) (ws1 := gpW cA ad g z) hx hb hml hown hT hK hP hD hS hA (c_X3_atN l D cA (ad 24) (ad 54) 6 (g 24) k (by omega) (by omega)) k_X3_at kl_X0_40 (q0 := 0) rfl rfl rfl [1, 2] rfl rfl rfl rfl hl rfl rfl (Nat.le_of_ble_eq_true rfl) ⟨⟨rfl, rfl⟩, Nat.le_of_ble_eq_true rfl, Nat.le_of_ble_eq_true rfl⟩ ⟨Nat.zero_le _, Nat.zero_le _⟩ dX0_mentionAt_5 (fun H locs hP hD hS => ?_)
  exact q_iret hx hb hr hlk (by rfl) hP hS dX0_mentionAt_8
abbrev rm_X0_putWorth : Room := { frames := 1, cells := 0, slots := 0, locals := 22 }
set_option maxRecDepth 100000 in
set_option maxHeartbeats 4000000 in
theorem c_X0_putWorth (l : Launch) (D : va_G) (cA : ClassId) (ad : Nat → Nat) (g : Nat → Nat → Int32) (z : Nat → Nat) (i : Nat) (j : Nat) (x : Int32) (hi : i < 6) (hj : j < 6) : q_CV l yX0_putWorth [Cond.code yX0_putWorth cX0_putWorth 4 none] rm_X0_putWorth D cA [.ref (ad 73), .int (nI i), .int (nI j), .int x] (gpW cA ad g z) (gpW cA ad (gs g 25 (upd (g 25) (i * 6 + j) x)) z) := by
  refine q_startV RX0 (by decide +kernel) rfl (Nat.le_of_ble_eq_true rfl) ?_
  intro p e s m below meth c A args H locs ls hx hb hr hml hown hT hlk hP hK hD hA hS hl
  have hl : lv_has ls 4 [(0, .ref (ad 73)), (1, .int (nI i)), (2, .int (nI j)), (3, .int x)] := hl
  refine lv_aload_n hx hb dX0_putWorth_0 rfl (lv_at hl 0 rfl) ?_
  refine q_get hx hb hT hown hK hP kw_X0 0 rfl rfl 1 (by decide) kf_X0_20 rfl (v := .ref (ad 25)) rfl dX0_putWorth_1 ?_
  refine lv_iload_n hx hb dX0_putWorth_4 rfl (lv_at hl 1 rfl) ?_
  refine lv_bipush (v := nI 6) hx hb dX0_putWorth_5 (by decide +kernel) ?_
  refine lv_imul hx hb dX0_putWorth_7 ?_
  refine q_top (y := nI (i * 6)) (pk_mul _ _) ?_
  refine lv_iload_n hx hb dX0_putWorth_8 rfl (lv_at hl 2 rfl) ?_
  refine lv_iadd hx hb dX0_putWorth_9 ?_
  refine q_top (y := nI ((i * 6) + j)) (nI_add _ _) ?_
  refine lv_iload_n hx hb dX0_putWorth_10 rfl (lv_at hl 3 rfl) ?_
  refine q_callV (As := [.int (nI ((i * 6) + j)), .int x]) (wc := rowW cA (ad 25) (ad 55) 36 (g 25)) (w1 := rowW cA (ad 25) (ad 55) 36 (upd (g 25) ((i * 6) + j) x)) (ws1 := gpW cA ad (gs g 25 (upd (g 25) ((i * 6) + j) x)) z) hx hb hml hown hT hK hP hD hS hA (c_X3_putN l D cA (ad 25) (ad 55) 36 (g 25) ((i * 6) + j) x (by omega) (by omega)) k_X3_put kl_X0_36 (q0 := 0) rfl rfl rfl [3, 4] rfl rfl rfl rfl hl rfl rfl (Nat.le_of_ble_eq_true rfl) ⟨⟨rfl, rfl⟩, Nat.le_of_ble_eq_true rfl, Nat.le_of_ble_eq_true rfl⟩ ⟨Nat.zero_le _, Nat.zero_le _⟩ dX0_putWorth_11 (fun H locs hP hD hS => ?_)
  obtain ⟨nF11_25, enF11_25⟩ : ∃ y : Nat → Int32, y = upd (g 25) ((i * 6) + j) x := ⟨_, rfl⟩
  have hP : va_P D vwCl (gpW cA ad (gs g 25 nF11_25) z) H := by rw [enF11_25]; exact hP
  have hD : va_D A (gpW cA ad (gs g 25 nF11_25) z) := by rw [enF11_25]; exact hD
  rw [enF11_25] at hP hD
  exact q_vret hx hb hr hlk (va_cast' hP (by rfl)) hS dX0_putWorth_14
abbrev rm_X0_pairWorth : Room := { frames := 1, cells := 0, slots := 0, locals := 21 }
set_option maxRecDepth 100000 in
set_option maxHeartbeats 4000000 in
theorem c_X0_pairWorth (l : Launch) (D : va_G) (cA : ClassId) (ad : Nat → Nat) (g : Nat → Nat → Int32) (z : Nat → Nat) (i : Nat) (j : Nat) (hi : i < 6) (hj : j < 6) : q_CI l yX0_pairWorth [Cond.code yX0_pairWorth cX0_pairWorth 3 (some .int)] rm_X0_pairWorth D cA [.ref (ad 73), .int (nI i), .int (nI j)] (gpW cA ad g z) ((g 25) (i * 6 + j)) (gpW cA ad g z) := by
  refine q_startI RX0 (by decide +kernel) rfl (Nat.le_of_ble_eq_true rfl) ?_
  intro p e s m below meth c A args H locs ls hx hb hr hml hown hT hlk hP hK hD hA hS hl
  have hl : lv_has ls 3 [(0, .ref (ad 73)), (1, .int (nI i)), (2, .int (nI j))] := hl
  refine lv_aload_n hx hb dX0_pairWorth_0 rfl (lv_at hl 0 rfl) ?_
  refine q_get hx hb hT hown hK hP kw_X0 0 rfl rfl 1 (by decide) kf_X0_20 rfl (v := .ref (ad 25)) rfl dX0_pairWorth_1 ?_
  refine lv_iload_n hx hb dX0_pairWorth_4 rfl (lv_at hl 1 rfl) ?_
  refine lv_bipush (v := nI 6) hx hb dX0_pairWorth_5 (by decide +kernel) ?_
  refine lv_imul hx hb dX0_pairWorth_7 ?_
  refine q_top (y := nI (i * 6)) (pk_mul _ _) ?_
  refine lv_iload_n hx hb dX0_pairWorth_8 rfl (lv_at hl 2 rfl) ?_
  refine lv_iadd hx hb dX0_pairWorth_9 ?_
  refine q_top (y := nI ((i * 6) + j)) (nI_add _ _) ?_
  refine q_callI (As := [.int (nI ((i * 6) + j))]) (r := g 25 ((i * 6) + j)) (wc := rowW cA (ad 25) (ad 55) 36 (g 25)) (w1 := rowW cA (ad 25) (ad 55) 36 (g 25)) (ws1 := gpW cA ad g z) hx hb hml hown hT hK hP hD hS hA (c_X3_atN l D cA (ad 25) (ad 55) 36 (g 25) ((i * 6) + j) (by omega) (by omega)) k_X3_at kl_X0_40 (q0 := 0) rfl rfl rfl [3, 4] rfl rfl rfl rfl hl rfl rfl (Nat.le_of_ble_eq_true rfl) ⟨⟨rfl, rfl⟩, Nat.le_of_ble_eq_true rfl, Nat.le_of_ble_eq_true rfl⟩ ⟨Nat.zero_le _, Nat.zero_le _⟩ dX0_pairWorth_10 (fun H locs hP hD hS => ?_)
  exact q_iret hx hb hr hlk (by rfl) hP hS dX0_pairWorth_13
abbrev rm_X0_worthOfGroup : Room := { frames := 2, cells := 0, slots := 0, locals := 43 }
set_option maxRecDepth 100000 in
set_option maxHeartbeats 4000000 in
theorem c_X0_worthOfGroup (l : Launch) (D : va_G) (cA : ClassId) (ad : Nat → Nat) (g : Nat → Nat → Int32) (z : Nat → Nat) (x : Nat) (hx9 : x < 64) (hz : (z 3) ≤ 6) : q_CI l yX0_worthOfGroup [Cond.code yX0_worthOfGroup cX0_worthOfGroup 6 (some .int)] rm_X0_worthOfGroup D cA [.ref (ad 73), .int (nI x)] (gpW cA ad g z) (wOf (setT (nI x)) (g 25) (z 3)) (gpW cA ad g z) := by
  refine q_startI RX0 (by decide +kernel) rfl (Nat.le_of_ble_eq_true rfl) ?_
  intro p e s m below meth c A args H locs ls hx hb hr hml hown hT hlk hP hK hD hA hS hl
  have hl : lv_has ls 6 [(0, .ref (ad 73)), (1, .int (nI x))] := hl
  have zqL4 : ∀ (fu : Nat), ∀ (i : Nat), (z 3 + 1 ≤ i + fu) → (i ≤ (z 3)) → (∀ i2 j2, i2 < i → j2 < (z 3) → ¬ badP (setT (nI x)) (g 25) i2 j2) → ∀ (H : Heap) (locs : List Loc) (ls : Array Slot), va_P D vwCl (gpW cA ad g z) H → va_D A (gpW cA ad g z) → va_S A s.heap H locs → lv_has ls 6 [(0, .ref (ad 73)), (1, .int (nI x)), (2, .int (ouS (setT (nI x)) (g 25) (z 3) i)), (3, .int (nI i))] → W p l e rm_X0_worthOfGroup s m args below meth c H locs 0 0 (q_GI D (wOf (setT (nI x)) (g 25) (z 3)) (gpW cA ad g z) A below args s) (F0 m 4 ls []) := by
    intro fu
    induction fu with
    | zero =>
      intro i hfu hi hbd H locs ls hP hD hS hl
      exfalso; omega
    | succ fu ih4 =>
      intro i hfu hi hbd H locs ls hP hD hS hl
      have zqL17 : ∀ (fu : Nat), ∀ (j : Nat), (z 3 + 1 ≤ j + fu) → (j ≤ (z 3)) → (i < j) → (i < (z 3)) → (∀ i2 j2, (i2 < i ∨ (i2 = i ∧ j2 < j)) → j2 < (z 3) → ¬ badP (setT (nI x)) (g 25) i2 j2) → ∀ (H : Heap) (locs : List Loc) (ls : Array Slot), va_P D vwCl (gpW cA ad g z) H → va_D A (gpW cA ad g z) → va_S A s.heap H locs → lv_has ls 6 [(0, .ref (ad 73)), (1, .int (nI x)), (2, .int (ouS (setT (nI x)) (g 25) (z 3) i + inS (setT (nI x)) (g 25) i j)), (3, .int (nI i)), (4, .int (nI j))] → W p l e rm_X0_worthOfGroup s m args below meth c H locs 0 0 (q_GI D (wOf (setT (nI x)) (g 25) (z 3)) (gpW cA ad g z) A below args s) (F0 m 17 ls []) := by
        intro fu
        induction fu with
        | zero =>
          intro j hfu hj hij hi9 hb2 H locs ls hP hD hS hl
          exfalso; omega
        | succ fu ih17 =>
          intro j hfu hj hij hi9 hb2 H locs ls hP hD hS hl
          have zqJ44 : (j < (z 3)) → ∀ (H : Heap) (locs : List Loc) (ls : Array Slot), va_P D vwCl (gpW cA ad g z) H → va_D A (gpW cA ad g z) → va_S A s.heap H locs → lv_has ls 6 [(0, .ref (ad 73)), (1, .int (nI x)), (2, .int (ouS (setT (nI x)) (g 25) (z 3) i + inS (setT (nI x)) (g 25) i j)), (3, .int (nI i)), (4, .int (nI j))] → W p l e rm_X0_worthOfGroup s m args below meth c H locs 0 0 (q_GI D (wOf (setT (nI x)) (g 25) (z 3)) (gpW cA ad g z) A below args s) (F0 m 44 ls [.int (q_b ((setT (nI x)) i j))]) := by
            intro  hj9 H locs ls hP hD hS hl
            have zqJ66 : (¬ badP (setT (nI x)) (g 25) i j) → ∀ (H : Heap) (locs : List Loc) (ls : Array Slot), va_P D vwCl (gpW cA ad g z) H → va_D A (gpW cA ad g z) → va_S A s.heap H locs → lv_has ls 6 [(0, .ref (ad 73)), (1, .int (nI x)), (2, .int (ouS (setT (nI x)) (g 25) (z 3) i + inS (setT (nI x)) (g 25) i j)), (3, .int (nI i)), (4, .int (nI j)), (5, .int (q_b ((setT (nI x)) i j)))] → W p l e rm_X0_worthOfGroup s m args below meth c H locs 0 0 (q_GI D (wOf (setT (nI x)) (g 25) (z 3)) (gpW cA ad g z) A below args s) (F0 m 66 ls []) := by
              intro  hn9 H locs ls hP hD hS hl
              have zqJ83 : ∀ (H : Heap) (locs : List Loc) (ls : Array Slot), va_P D vwCl (gpW cA ad g z) H → va_D A (gpW cA ad g z) → va_S A s.heap H locs → lv_has ls 6 [(0, .ref (ad 73)), (1, .int (nI x)), (3, .int (nI i)), (4, .int (nI j)), (5, .int (q_b ((setT (nI x)) i j)))] → W p l e rm_X0_worthOfGroup s m args below meth c H locs 0 0 (q_GI D (wOf (setT (nI x)) (g 25) (z 3)) (gpW cA ad g z) A below args s) (F0 m 83 ls [.int (bif (setT (nI x)) i j then (g 25) (i * 6 + j) else nI 0), .int (ouS (setT (nI x)) (g 25) (z 3) i + inS (setT (nI x)) (g 25) i j)]) := by
                intro   H locs ls hP hD hS hl
                refine lv_iadd hx hb dX0_worthOfGroup_83 ?_
                refine q_top (y := ouS (setT (nI x)) (g 25) (z 3) i + inS (setT (nI x)) (g 25) i (j + 1)) (by cases h9 : (setT (nI x)) i j; exact inS_f _ h9; exact inS_t _ hij h9) ?_
                refine lv_istore_n (lv' := [(2, .int (ouS (setT (nI x)) (g 25) (z 3) i + inS (setT (nI x)) (g 25) i (j + 1))), (0, .ref (ad 73)), (1, .int (nI x)), (3, .int (nI i)), (4, .int (nI j)), (5, .int (q_b ((setT (nI x)) i j)))]) hx hb dX0_worthOfGroup_84 rfl hl (by decide) rfl (fun ls hl => ?_)
                refine lv_iinc (v := nI (j + 1)) (lv' := [(4, .int (nI (j + 1))), (2, .int (ouS (setT (nI x)) (g 25) (z 3) i + inS (setT (nI x)) (g 25) i (j + 1))), (0, .ref (ad 73)), (1, .int (nI x)), (3, .int (nI i)), (5, .int (q_b ((setT (nI x)) i j)))]) hx hb dX0_worthOfGroup_85 hl (k := 4) rfl (q_inc1 _) (by decide) rfl (fun ls hl => ?_)
                refine lv_goto (tgt := 17) hx hb dX0_worthOfGroup_88 (by decide) ?_
                exact ih17 (j + 1) (by omega) (by omega) (by omega) (by omega) (fun i2 j2 h1 h2 => by rcases Nat.lt_or_ge j2 j with q | q; exact hb2 i2 j2 (by omega) h2; by_cases e1 : i2 = i ∧ j2 = j; rw [e1.1, e1.2]; exact hn9; exact hb2 i2 j2 (by omega) h2) _ _ _ hP hD hS (lv_sub hl [2, 3, 1, 4, 0] rfl)
              refine lv_iload_n hx hb dX0_worthOfGroup_66 rfl (lv_at hl 2 rfl) ?_
              refine lv_iload hx hb dX0_worthOfGroup_67 (lv_at hl 5 rfl) ?_
              refine lv_if_eq (tgt := 82) hx hb dX0_worthOfGroup_69 (by decide) (fun c_69 => ?_) (fun c_69 => ?_)
              · have c_69 := q_b0e c_69
                refine lv_iconst (v := nI 0) hx hb dX0_worthOfGroup_82 (by decide +kernel) ?_
                refine q_top (y := (bif (setT (nI x)) i j then (g 25) (i * 6 + j) else nI 0)) (by rw [c_69]; rfl) ?_
                exact zqJ83   _ _ _ hP hD hS (lv_sub hl [0, 1, 3, 4, 5] rfl)
              · have c_69 := q_b0n c_69
                refine lv_aload_n hx hb dX0_worthOfGroup_72 rfl (lv_at hl 0 rfl) ?_
                refine lv_iload_n hx hb dX0_worthOfGroup_73 rfl (lv_at hl 3 rfl) ?_
                refine lv_iload hx hb dX0_worthOfGroup_74 (lv_at hl 4 rfl) ?_
                refine q_callIW (As := [.int (nI i), .int (nI j)]) (r := (g 25) (i * 6 + j)) (w1 := gpW cA ad g z) hx hb hml hown hT hK hP hD hS hA (c_X0_pairWorth l D cA ad g z i j (show i < 6 by omega) (show j < 6 by omega)) k_X0_pairWorth kl_X0_50 (q0 := 0) rfl rfl rfl ((gpW_adr _ _ _ _).trans (gpW_adr _ _ _ _).symm) hl rfl rfl (Nat.le_of_ble_eq_true rfl) ⟨⟨rfl, rfl⟩, Nat.le_of_ble_eq_true rfl, Nat.le_of_ble_eq_true rfl⟩ ⟨Nat.zero_le _, Nat.zero_le _⟩ dX0_worthOfGroup_76 (fun H locs hP hD hS => ?_)
                refine lv_goto (tgt := 83) hx hb dX0_worthOfGroup_79 (by decide) ?_
                refine q_top (y := (bif (setT (nI x)) i j then (g 25) (i * 6 + j) else nI 0)) (by rw [c_69]; rfl) ?_
                exact zqJ83   _ _ _ hP hD hS (lv_sub hl [0, 1, 3, 4, 5] rfl)
            refine lv_istore (lv' := [(5, .int (q_b ((setT (nI x)) i j))), (0, .ref (ad 73)), (1, .int (nI x)), (2, .int (ouS (setT (nI x)) (g 25) (z 3) i + inS (setT (nI x)) (g 25) i j)), (3, .int (nI i)), (4, .int (nI j))]) hx hb dX0_worthOfGroup_44 hl (by decide) rfl (fun ls hl => ?_)
            refine lv_iload hx hb dX0_worthOfGroup_46 (lv_at hl 0 rfl) ?_
            refine lv_if_eq (tgt := 66) hx hb dX0_worthOfGroup_48 (by decide) (fun c_48 => ?_) (fun c_48 => ?_)
            · have c_48 := q_b0e c_48
              exact zqJ66  (fun h => by have h2 := h.2.1; rw [c_48] at h2; cases h2) _ _ _ hP hD hS (lv_sub hl [1, 2, 3, 4, 5, 0] rfl)
            · have c_48 := q_b0n c_48
              refine lv_aload_n hx hb dX0_worthOfGroup_51 rfl (lv_at hl 1 rfl) ?_
              refine lv_iload_n hx hb dX0_worthOfGroup_52 rfl (lv_at hl 4 rfl) ?_
              refine lv_iload hx hb dX0_worthOfGroup_53 (lv_at hl 5 rfl) ?_
              refine q_callIW (As := [.int (nI i), .int (nI j)]) (r := (g 25) (i * 6 + j)) (w1 := gpW cA ad g z) hx hb hml hown hT hK hP hD hS hA (c_X0_pairWorth l D cA ad g z i j (show i < 6 by omega) (show j < 6 by omega)) k_X0_pairWorth kl_X0_50 (q0 := 0) rfl rfl rfl ((gpW_adr _ _ _ _).trans (gpW_adr _ _ _ _).symm) hl rfl rfl (Nat.le_of_ble_eq_true rfl) ⟨⟨rfl, rfl⟩, Nat.le_of_ble_eq_true rfl, Nat.le_of_ble_eq_true rfl⟩ ⟨Nat.zero_le _, Nat.zero_le _⟩ dX0_worthOfGroup_55 (fun H locs hP hD hS => ?_)
              refine lv_ldc (v := (-1000000)) hx hb hown (hT.use kk_X0_54 args) dX0_worthOfGroup_58 ?_
              refine lv_icmp_ne (tgt := 66) hx hb dX0_worthOfGroup_60 (by decide) (fun c_60 => ?_) (fun c_60 => ?_)
              · exact zqJ66  (fun h => c_60 h.2.2) _ _ _ hP hD hS (lv_sub hl [1, 2, 3, 4, 5, 0] rfl)
              · refine lv_ldc (v := (-1000000)) hx hb hown (hT.use kk_X0_54 args) dX0_worthOfGroup_63 ?_
                exact q_iret hx hb hr hlk (by exact wOf_bad (i := i) (j := j) (by omega) (by omega) ⟨hij, c_48, c_60⟩) hP hS dX0_worthOfGroup_65
          refine lv_iload hx hb dX0_worthOfGroup_17 (lv_at hl 4 rfl) ?_
          refine lv_aload_n hx hb dX0_worthOfGroup_19 rfl (lv_at hl 0 rfl) ?_
          refine q_get hx hb hT hown hK hP kw_X0 0 rfl rfl 5 (by decide) kf_X0_32 rfl (v := .int (nI (z 3))) rfl dX0_worthOfGroup_20 ?_
          refine lv_icmp_ge (tgt := 91) hx hb dX0_worthOfGroup_23 (by decide) (fun c_23 => ?_) (fun c_23 => ?_)
          · have c_23 := nI_le1 (a := z 3) (b := j) (by omega) (by omega) c_23
            refine lv_iinc (v := nI (i + 1)) (lv' := [(3, .int (nI (i + 1))), (0, .ref (ad 73)), (1, .int (nI x)), (2, .int (ouS (setT (nI x)) (g 25) (z 3) i + inS (setT (nI x)) (g 25) i j)), (4, .int (nI j))]) hx hb dX0_worthOfGroup_91 hl (k := 3) rfl (q_inc1 _) (by decide) rfl (fun ls hl => ?_)
            refine lv_goto (tgt := 4) hx hb dX0_worthOfGroup_94 (by decide) ?_
            have e9_0 : (ouS (setT (nI x)) (g 25) (z 3) i + inS (setT (nI x)) (g 25) i j) = (ouS (setT (nI x)) (g 25) (z 3) (i + 1)) := by first | with_reducible rfl | (rw [show j = z 3 by omega]; rfl)
            have hl9 : lv_has ls 6 [(0, .ref (ad 73)), (1, .int (nI x)), (2, .int (ouS (setT (nI x)) (g 25) (z 3) (i + 1))), (3, .int (nI (i + 1)))] := lv_cast (l := [(0, .ref (ad 73)), (1, .int (nI x)), (2, .int (ouS (setT (nI x)) (g 25) (z 3) i + inS (setT (nI x)) (g 25) i j)), (3, .int (nI (i + 1)))]) (lv_sub hl [1, 2, 3, 0] rfl) (congrArg (fun v9 : Int32 => ([(0, .ref (ad 73)), (1, .int (nI x)), (2, .int v9), (3, .int (nI (i + 1)))] : List (Nat × Value))) e9_0)
            exact ih4 (i + 1) (by omega) (by omega) (fun i2 j2 h1 h2 => hb2 i2 j2 (by omega) h2) _ _ _ hP hD hS hl9
          · have c_23 := nI_le0 (a := z 3) (b := j) (by omega) (by omega) c_23
            refine lv_iload_n hx hb dX0_worthOfGroup_26 rfl (lv_at hl 1 rfl) ?_
            refine lv_iload_n hx hb dX0_worthOfGroup_27 rfl (lv_at hl 3 rfl) ?_
            refine lv_ishr hx hb dX0_worthOfGroup_28 ?_
            refine lv_iload_n hx hb dX0_worthOfGroup_29 rfl (lv_at hl 1 rfl) ?_
            refine lv_iload hx hb dX0_worthOfGroup_30 (lv_at hl 4 rfl) ?_
            refine lv_ishr hx hb dX0_worthOfGroup_32 ?_
            refine lv_iand hx hb dX0_worthOfGroup_33 ?_
            refine lv_iconst (v := nI 1) hx hb dX0_worthOfGroup_34 (by decide +kernel) ?_
            refine lv_iand hx hb dX0_worthOfGroup_35 ?_
            refine lv_if_eq (tgt := 43) hx hb dX0_worthOfGroup_36 (by decide) (fun c_36 => ?_) (fun c_36 => ?_)
            · refine lv_iconst (v := nI 0) hx hb dX0_worthOfGroup_43 (by decide +kernel) ?_
              refine q_top (y := q_b ((setT (nI x)) i j)) (by first | exact q_bt (decide_eq_true c_36) | exact q_bf (decide_eq_false (fun h => h c_36)) | exact q_bf (decide_eq_false c_36)) ?_
              exact zqJ44  (by omega) _ _ _ hP hD hS (lv_sub hl [0, 1, 2, 3, 4] rfl)
            · refine lv_iconst (v := nI 1) hx hb dX0_worthOfGroup_39 (by decide +kernel) ?_
              refine lv_goto (tgt := 44) hx hb dX0_worthOfGroup_40 (by decide) ?_
              refine q_top (y := q_b ((setT (nI x)) i j)) (by first | exact q_bt (decide_eq_true c_36) | exact q_bf (decide_eq_false (fun h => h c_36)) | exact q_bf (decide_eq_false c_36)) ?_
              exact zqJ44  (by omega) _ _ _ hP hD hS (lv_sub hl [0, 1, 2, 3, 4] rfl)
      refine lv_iload_n hx hb dX0_worthOfGroup_4 rfl (lv_at hl 3 rfl) ?_
      refine lv_aload_n hx hb dX0_worthOfGroup_5 rfl (lv_at hl 0 rfl) ?_
      refine q_get hx hb hT hown hK hP kw_X0 0 rfl rfl 5 (by decide) kf_X0_32 rfl (v := .int (nI (z 3))) rfl dX0_worthOfGroup_6 ?_
      refine lv_icmp_ge (tgt := 97) hx hb dX0_worthOfGroup_9 (by decide) (fun c_9 => ?_) (fun c_9 => ?_)
      · have c_9 := nI_le1 (a := z 3) (b := i) (by omega) (by omega) c_9
        refine lv_iload_n hx hb dX0_worthOfGroup_97 rfl (lv_at hl 2 rfl) ?_
        exact q_iret hx hb hr hlk (by rw [show i = z 3 by omega]; exact wOf_ok (fun i2 j2 h1 h2 => hbd i2 j2 (by omega) h2)) hP hS dX0_worthOfGroup_98
      · have c_9 := nI_le0 (a := z 3) (b := i) (by omega) (by omega) c_9
        refine lv_iload_n hx hb dX0_worthOfGroup_12 rfl (lv_at hl 3 rfl) ?_
        refine lv_iconst (v := nI 1) hx hb dX0_worthOfGroup_13 (by decide +kernel) ?_
        refine lv_iadd hx hb dX0_worthOfGroup_14 ?_
        refine q_top (y := nI (i + 1)) (nI_add _ _) ?_
        refine lv_istore (lv' := [(4, .int (nI (i + 1))), (0, .ref (ad 73)), (1, .int (nI x)), (2, .int (ouS (setT (nI x)) (g 25) (z 3) i)), (3, .int (nI i))]) hx hb dX0_worthOfGroup_15 hl (by decide) rfl (fun ls hl => ?_)
        have e9_0 : (ouS (setT (nI x)) (g 25) (z 3) i) = (ouS (setT (nI x)) (g 25) (z 3) i + inS (setT (nI x)) (g 25) i (i + 1)) := by first | with_reducible rfl | (rw [inS_0 (i + 1) (by omega), add_nI0])
        have hl9 : lv_has ls 6 [(0, .ref (ad 73)), (1, .int (nI x)), (2, .int (ouS (setT (nI x)) (g 25) (z 3) i + inS (setT (nI x)) (g 25) i (i + 1))), (3, .int (nI i)), (4, .int (nI (i + 1)))] := lv_cast (l := [(0, .ref (ad 73)), (1, .int (nI x)), (2, .int (ouS (setT (nI x)) (g 25) (z 3) i)), (3, .int (nI i)), (4, .int (nI (i + 1)))]) (lv_sub hl [1, 2, 3, 4, 0] rfl) (congrArg (fun v9 : Int32 => ([(0, .ref (ad 73)), (1, .int (nI x)), (2, .int v9), (3, .int (nI i)), (4, .int (nI (i + 1)))] : List (Nat × Value))) e9_0)
        exact zqL17 (z 3 + 1) (i + 1) (by omega) (by omega) (by omega) (by omega) (fun i2 j2 h1 h2 h3 => by rcases h1 with h1 | ⟨h1, h4⟩; exact hbd i2 j2 h1 h2 h3; exact absurd h3.1 (by omega)) _ _ _ hP hD hS hl9
  refine lv_iconst (v := nI 0) hx hb dX0_worthOfGroup_0 (by decide +kernel) ?_
  refine lv_istore_n (lv' := [(2, .int (nI 0)), (0, .ref (ad 73)), (1, .int (nI x))]) hx hb dX0_worthOfGroup_1 rfl hl (by decide) rfl (fun ls hl => ?_)
  refine lv_iconst (v := nI 0) hx hb dX0_worthOfGroup_2 (by decide +kernel) ?_
  refine lv_istore_n (lv' := [(3, .int (nI 0)), (2, .int (nI 0)), (0, .ref (ad 73)), (1, .int (nI x))]) hx hb dX0_worthOfGroup_3 rfl hl (by decide) rfl (fun ls hl => ?_)
  have e9_0 : (nI 0) = (ouS (setT (nI x)) (g 25) (z 3) 0) := by first | with_reducible rfl | (rfl)
  have hl9 : lv_has ls 6 [(0, .ref (ad 73)), (1, .int (nI x)), (2, .int (ouS (setT (nI x)) (g 25) (z 3) 0)), (3, .int (nI 0))] := lv_cast (l := [(0, .ref (ad 73)), (1, .int (nI x)), (2, .int (nI 0)), (3, .int (nI 0))]) (lv_sub hl [2, 3, 1, 0] rfl) (congrArg (fun v9 : Int32 => ([(0, .ref (ad 73)), (1, .int (nI x)), (2, .int v9), (3, .int (nI 0))] : List (Nat × Value))) e9_0)
  exact zqL4 (z 3 + 1) 0 (by omega) (by omega) (fun _ _ h => absurd h (Nat.not_lt_zero _)) _ _ _ hP hD hS hl9
abbrev rm_X0_worthOfGrouping : Room := { frames := 2, cells := 0, slots := 0, locals := 43 }
set_option maxRecDepth 100000 in
set_option maxHeartbeats 4000000 in
theorem c_X0_worthOfGrouping (l : Launch) (D : va_G) (cA : ClassId) (ad : Nat → Nat) (g : Nat → Nat → Int32) (z : Nat → Nat)  (hz : (z 3) ≤ 6) : q_CI l yX0_worthOfGrouping [Cond.code yX0_worthOfGrouping cX0_worthOfGrouping 5 (some .int)] rm_X0_worthOfGrouping D cA [.ref (ad 73)] (gpW cA ad g z) (wOf (groT (g 28)) (g 25) (z 3)) (gpW cA ad g z) := by
  refine q_startI RX0 (by decide +kernel) rfl (Nat.le_of_ble_eq_true rfl) ?_
  intro p e s m below meth c A args H locs ls hx hb hr hml hown hT hlk hP hK hD hA hS hl
  have hl : lv_has ls 5 [(0, .ref (ad 73))] := hl
  have zqL4 : ∀ (fu : Nat), ∀ (i : Nat), (z 3 + 1 ≤ i + fu) → (i ≤ (z 3)) → (∀ i2 j2, i2 < i → j2 < (z 3) → ¬ badP (groT (g 28)) (g 25) i2 j2) → ∀ (H : Heap) (locs : List Loc) (ls : Array Slot), va_P D vwCl (gpW cA ad g z) H → va_D A (gpW cA ad g z) → va_S A s.heap H locs → lv_has ls 5 [(0, .ref (ad 73)), (1, .int (ouS (groT (g 28)) (g 25) (z 3) i)), (2, .int (nI i))] → W p l e rm_X0_worthOfGrouping s m args below meth c H locs 0 0 (q_GI D (wOf (groT (g 28)) (g 25) (z 3)) (gpW cA ad g z) A below args s) (F0 m 4 ls []) := by
    intro fu
    induction fu with
    | zero =>
      intro i hfu hi hbd H locs ls hP hD hS hl
      exfalso; omega
    | succ fu ih4 =>
      intro i hfu hi hbd H locs ls hP hD hS hl
      have zqL16 : ∀ (fu : Nat), ∀ (j : Nat), (z 3 + 1 ≤ j + fu) → (j ≤ (z 3)) → (i < j) → (i < (z 3)) → (∀ i2 j2, (i2 < i ∨ (i2 = i ∧ j2 < j)) → j2 < (z 3) → ¬ badP (groT (g 28)) (g 25) i2 j2) → ∀ (H : Heap) (locs : List Loc) (ls : Array Slot), va_P D vwCl (gpW cA ad g z) H → va_D A (gpW cA ad g z) → va_S A s.heap H locs → lv_has ls 5 [(0, .ref (ad 73)), (1, .int (ouS (groT (g 28)) (g 25) (z 3) i + inS (groT (g 28)) (g 25) i j)), (2, .int (nI i)), (3, .int (nI j))] → W p l e rm_X0_worthOfGrouping s m args below meth c H locs 0 0 (q_GI D (wOf (groT (g 28)) (g 25) (z 3)) (gpW cA ad g z) A below args s) (F0 m 16 ls []) := by
        intro fu
        induction fu with
        | zero =>
          intro j hfu hj hij hi9 hb2 H locs ls hP hD hS hl
          exfalso; omega
        | succ fu ih16 =>
          intro j hfu hj hij hi9 hb2 H locs ls hP hD hS hl
          have zqJ48 : (j < (z 3)) → ∀ (H : Heap) (locs : List Loc) (ls : Array Slot), va_P D vwCl (gpW cA ad g z) H → va_D A (gpW cA ad g z) → va_S A s.heap H locs → lv_has ls 5 [(0, .ref (ad 73)), (1, .int (ouS (groT (g 28)) (g 25) (z 3) i + inS (groT (g 28)) (g 25) i j)), (2, .int (nI i)), (3, .int (nI j))] → W p l e rm_X0_worthOfGrouping s m args below meth c H locs 0 0 (q_GI D (wOf (groT (g 28)) (g 25) (z 3)) (gpW cA ad g z) A below args s) (F0 m 48 ls [.int (q_b ((groT (g 28)) i j))]) := by
            intro  hj9 H locs ls hP hD hS hl
            have zqJ69 : (¬ badP (groT (g 28)) (g 25) i j) → ∀ (H : Heap) (locs : List Loc) (ls : Array Slot), va_P D vwCl (gpW cA ad g z) H → va_D A (gpW cA ad g z) → va_S A s.heap H locs → lv_has ls 5 [(0, .ref (ad 73)), (1, .int (ouS (groT (g 28)) (g 25) (z 3) i + inS (groT (g 28)) (g 25) i j)), (2, .int (nI i)), (3, .int (nI j)), (4, .int (q_b ((groT (g 28)) i j)))] → W p l e rm_X0_worthOfGrouping s m args below meth c H locs 0 0 (q_GI D (wOf (groT (g 28)) (g 25) (z 3)) (gpW cA ad g z) A below args s) (F0 m 69 ls []) := by
              intro  hn9 H locs ls hP hD hS hl
              have zqJ85 : ∀ (H : Heap) (locs : List Loc) (ls : Array Slot), va_P D vwCl (gpW cA ad g z) H → va_D A (gpW cA ad g z) → va_S A s.heap H locs → lv_has ls 5 [(0, .ref (ad 73)), (2, .int (nI i)), (3, .int (nI j)), (4, .int (q_b ((groT (g 28)) i j)))] → W p l e rm_X0_worthOfGrouping s m args below meth c H locs 0 0 (q_GI D (wOf (groT (g 28)) (g 25) (z 3)) (gpW cA ad g z) A below args s) (F0 m 85 ls [.int (bif (groT (g 28)) i j then (g 25) (i * 6 + j) else nI 0), .int (ouS (groT (g 28)) (g 25) (z 3) i + inS (groT (g 28)) (g 25) i j)]) := by
                intro   H locs ls hP hD hS hl
                refine lv_iadd hx hb dX0_worthOfGrouping_85 ?_
                refine q_top (y := ouS (groT (g 28)) (g 25) (z 3) i + inS (groT (g 28)) (g 25) i (j + 1)) (by cases h9 : (groT (g 28)) i j; exact inS_f _ h9; exact inS_t _ hij h9) ?_
                refine lv_istore_n (lv' := [(1, .int (ouS (groT (g 28)) (g 25) (z 3) i + inS (groT (g 28)) (g 25) i (j + 1))), (0, .ref (ad 73)), (2, .int (nI i)), (3, .int (nI j)), (4, .int (q_b ((groT (g 28)) i j)))]) hx hb dX0_worthOfGrouping_86 rfl hl (by decide) rfl (fun ls hl => ?_)
                refine lv_iinc (v := nI (j + 1)) (lv' := [(3, .int (nI (j + 1))), (1, .int (ouS (groT (g 28)) (g 25) (z 3) i + inS (groT (g 28)) (g 25) i (j + 1))), (0, .ref (ad 73)), (2, .int (nI i)), (4, .int (q_b ((groT (g 28)) i j)))]) hx hb dX0_worthOfGrouping_87 hl (k := 3) rfl (q_inc1 _) (by decide) rfl (fun ls hl => ?_)
                refine lv_goto (tgt := 16) hx hb dX0_worthOfGrouping_90 (by decide) ?_
                exact ih16 (j + 1) (by omega) (by omega) (by omega) (by omega) (fun i2 j2 h1 h2 => by rcases Nat.lt_or_ge j2 j with q | q; exact hb2 i2 j2 (by omega) h2; by_cases e1 : i2 = i ∧ j2 = j; rw [e1.1, e1.2]; exact hn9; exact hb2 i2 j2 (by omega) h2) _ _ _ hP hD hS (lv_sub hl [2, 1, 3, 0] rfl)
              refine lv_iload_n hx hb dX0_worthOfGrouping_69 rfl (lv_at hl 1 rfl) ?_
              refine lv_iload hx hb dX0_worthOfGrouping_70 (lv_at hl 4 rfl) ?_
              refine lv_if_eq (tgt := 84) hx hb dX0_worthOfGrouping_72 (by decide) (fun c_72 => ?_) (fun c_72 => ?_)
              · have c_72 := q_b0e c_72
                refine lv_iconst (v := nI 0) hx hb dX0_worthOfGrouping_84 (by decide +kernel) ?_
                refine q_top (y := (bif (groT (g 28)) i j then (g 25) (i * 6 + j) else nI 0)) (by rw [c_72]; rfl) ?_
                exact zqJ85   _ _ _ hP hD hS (lv_sub hl [0, 2, 3, 4] rfl)
              · have c_72 := q_b0n c_72
                refine lv_aload_n hx hb dX0_worthOfGrouping_75 rfl (lv_at hl 0 rfl) ?_
                refine lv_iload_n hx hb dX0_worthOfGrouping_76 rfl (lv_at hl 2 rfl) ?_
                refine lv_iload_n hx hb dX0_worthOfGrouping_77 rfl (lv_at hl 3 rfl) ?_
                refine q_callIW (As := [.int (nI i), .int (nI j)]) (r := (g 25) (i * 6 + j)) (w1 := gpW cA ad g z) hx hb hml hown hT hK hP hD hS hA (c_X0_pairWorth l D cA ad g z i j (show i < 6 by omega) (show j < 6 by omega)) k_X0_pairWorth kl_X0_50 (q0 := 0) rfl rfl rfl ((gpW_adr _ _ _ _).trans (gpW_adr _ _ _ _).symm) hl rfl rfl (Nat.le_of_ble_eq_true rfl) ⟨⟨rfl, rfl⟩, Nat.le_of_ble_eq_true rfl, Nat.le_of_ble_eq_true rfl⟩ ⟨Nat.zero_le _, Nat.zero_le _⟩ dX0_worthOfGrouping_78 (fun H locs hP hD hS => ?_)
                refine lv_goto (tgt := 85) hx hb dX0_worthOfGrouping_81 (by decide) ?_
                refine q_top (y := (bif (groT (g 28)) i j then (g 25) (i * 6 + j) else nI 0)) (by rw [c_72]; rfl) ?_
                exact zqJ85   _ _ _ hP hD hS (lv_sub hl [0, 2, 3, 4] rfl)
            refine lv_istore (lv' := [(4, .int (q_b ((groT (g 28)) i j))), (0, .ref (ad 73)), (1, .int (ouS (groT (g 28)) (g 25) (z 3) i + inS (groT (g 28)) (g 25) i j)), (2, .int (nI i)), (3, .int (nI j))]) hx hb dX0_worthOfGrouping_48 hl (by decide) rfl (fun ls hl => ?_)
            refine lv_iload hx hb dX0_worthOfGrouping_50 (lv_at hl 0 rfl) ?_
            refine lv_if_eq (tgt := 69) hx hb dX0_worthOfGrouping_52 (by decide) (fun c_52 => ?_) (fun c_52 => ?_)
            · have c_52 := q_b0e c_52
              exact zqJ69  (fun h => by have h2 := h.2.1; rw [c_52] at h2; cases h2) _ _ _ hP hD hS (lv_sub hl [1, 2, 3, 4, 0] rfl)
            · have c_52 := q_b0n c_52
              refine lv_aload_n hx hb dX0_worthOfGrouping_55 rfl (lv_at hl 1 rfl) ?_
              refine lv_iload_n hx hb dX0_worthOfGrouping_56 rfl (lv_at hl 3 rfl) ?_
              refine lv_iload_n hx hb dX0_worthOfGrouping_57 rfl (lv_at hl 4 rfl) ?_
              refine q_callIW (As := [.int (nI i), .int (nI j)]) (r := (g 25) (i * 6 + j)) (w1 := gpW cA ad g z) hx hb hml hown hT hK hP hD hS hA (c_X0_pairWorth l D cA ad g z i j (show i < 6 by omega) (show j < 6 by omega)) k_X0_pairWorth kl_X0_50 (q0 := 0) rfl rfl rfl ((gpW_adr _ _ _ _).trans (gpW_adr _ _ _ _).symm) hl rfl rfl (Nat.le_of_ble_eq_true rfl) ⟨⟨rfl, rfl⟩, Nat.le_of_ble_eq_true rfl, Nat.le_of_ble_eq_true rfl⟩ ⟨Nat.zero_le _, Nat.zero_le _⟩ dX0_worthOfGrouping_58 (fun H locs hP hD hS => ?_)
              refine lv_ldc (v := (-1000000)) hx hb hown (hT.use kk_X0_54 args) dX0_worthOfGrouping_61 ?_
              refine lv_icmp_ne (tgt := 69) hx hb dX0_worthOfGrouping_63 (by decide) (fun c_63 => ?_) (fun c_63 => ?_)
              · exact zqJ69  (fun h => c_63 h.2.2) _ _ _ hP hD hS (lv_sub hl [1, 2, 3, 4, 0] rfl)
              · refine lv_ldc (v := (-1000000)) hx hb hown (hT.use kk_X0_54 args) dX0_worthOfGrouping_66 ?_
                exact q_iret hx hb hr hlk (by exact wOf_bad (i := i) (j := j) (by omega) (by omega) ⟨hij, c_52, c_63⟩) hP hS dX0_worthOfGrouping_68
          refine lv_iload_n hx hb dX0_worthOfGrouping_16 rfl (lv_at hl 3 rfl) ?_
          refine lv_aload_n hx hb dX0_worthOfGrouping_17 rfl (lv_at hl 0 rfl) ?_
          refine q_get hx hb hT hown hK hP kw_X0 0 rfl rfl 5 (by decide) kf_X0_32 rfl (v := .int (nI (z 3))) rfl dX0_worthOfGrouping_18 ?_
          refine lv_icmp_ge (tgt := 93) hx hb dX0_worthOfGrouping_21 (by decide) (fun c_21 => ?_) (fun c_21 => ?_)
          · have c_21 := nI_le1 (a := z 3) (b := j) (by omega) (by omega) c_21
            refine lv_iinc (v := nI (i + 1)) (lv' := [(2, .int (nI (i + 1))), (0, .ref (ad 73)), (1, .int (ouS (groT (g 28)) (g 25) (z 3) i + inS (groT (g 28)) (g 25) i j)), (3, .int (nI j))]) hx hb dX0_worthOfGrouping_93 hl (k := 2) rfl (q_inc1 _) (by decide) rfl (fun ls hl => ?_)
            refine lv_goto (tgt := 4) hx hb dX0_worthOfGrouping_96 (by decide) ?_
            have e9_0 : (ouS (groT (g 28)) (g 25) (z 3) i + inS (groT (g 28)) (g 25) i j) = (ouS (groT (g 28)) (g 25) (z 3) (i + 1)) := by first | with_reducible rfl | (rw [show j = z 3 by omega]; rfl)
            have hl9 : lv_has ls 5 [(0, .ref (ad 73)), (1, .int (ouS (groT (g 28)) (g 25) (z 3) (i + 1))), (2, .int (nI (i + 1)))] := lv_cast (l := [(0, .ref (ad 73)), (1, .int (ouS (groT (g 28)) (g 25) (z 3) i + inS (groT (g 28)) (g 25) i j)), (2, .int (nI (i + 1)))]) (lv_sub hl [1, 2, 0] rfl) (congrArg (fun v9 : Int32 => ([(0, .ref (ad 73)), (1, .int v9), (2, .int (nI (i + 1)))] : List (Nat × Value))) e9_0)
            exact ih4 (i + 1) (by omega) (by omega) (fun i2 j2 h1 h2 => hb2 i2 j2 (by omega) h2) _ _ _ hP hD hS hl9
          · have c_21 := nI_le0 (a := z 3) (b := j) (by omega) (by omega) c_21
            refine lv_aload_n hx hb dX0_worthOfGrouping_24 rfl (lv_at hl 0 rfl) ?_
            refine q_get hx hb hT hown hK hP kw_X0 0 rfl rfl 4 (by decide) kf_X0_29 rfl (v := .ref (ad 28)) rfl dX0_worthOfGrouping_25 ?_
            refine lv_iload_n hx hb dX0_worthOfGrouping_28 rfl (lv_at hl 2 rfl) ?_
            refine q_callI (As := [.int (nI i)]) (r := g 28 i) (wc := rowW cA (ad 28) (ad 58) 6 (g 28)) (w1 := rowW cA (ad 28) (ad 58) 6 (g 28)) (ws1 := gpW cA ad g z) hx hb hml hown hT hK hP hD hS hA (c_X3_atN l D cA (ad 28) (ad 58) 6 (g 28) i (by omega) (by omega)) k_X3_at kl_X0_40 (q0 := 0) rfl rfl rfl [9, 10] rfl rfl rfl rfl hl rfl rfl (Nat.le_of_ble_eq_true rfl) ⟨⟨rfl, rfl⟩, Nat.le_of_ble_eq_true rfl, Nat.le_of_ble_eq_true rfl⟩ ⟨Nat.zero_le _, Nat.zero_le _⟩ dX0_worthOfGrouping_29 (fun H locs hP hD hS => ?_)
            refine lv_aload_n hx hb dX0_worthOfGrouping_32 rfl (lv_at hl 0 rfl) ?_
            refine q_get hx hb hT hown hK hP kw_X0 0 rfl rfl 4 (by decide) kf_X0_29 rfl (v := .ref (ad 28)) rfl dX0_worthOfGrouping_33 ?_
            refine lv_iload_n hx hb dX0_worthOfGrouping_36 rfl (lv_at hl 3 rfl) ?_
            refine q_callI (As := [.int (nI j)]) (r := g 28 j) (wc := rowW cA (ad 28) (ad 58) 6 (g 28)) (w1 := rowW cA (ad 28) (ad 58) 6 (g 28)) (ws1 := gpW cA ad g z) hx hb hml hown hT hK hP hD hS hA (c_X3_atN l D cA (ad 28) (ad 58) 6 (g 28) j (by omega) (by omega)) k_X3_at kl_X0_40 (q0 := 0) rfl rfl rfl [9, 10] rfl rfl rfl rfl hl rfl rfl (Nat.le_of_ble_eq_true rfl) ⟨⟨rfl, rfl⟩, Nat.le_of_ble_eq_true rfl, Nat.le_of_ble_eq_true rfl⟩ ⟨Nat.zero_le _, Nat.zero_le _⟩ dX0_worthOfGrouping_37 (fun H locs hP hD hS => ?_)
            refine lv_icmp_ne (tgt := 47) hx hb dX0_worthOfGrouping_40 (by decide) (fun c_40 => ?_) (fun c_40 => ?_)
            · refine lv_iconst (v := nI 0) hx hb dX0_worthOfGrouping_47 (by decide +kernel) ?_
              refine q_top (y := q_b ((groT (g 28)) i j)) (by first | exact q_bt (decide_eq_true c_40) | exact q_bf (decide_eq_false (fun h => h c_40)) | exact q_bf (decide_eq_false c_40)) ?_
              exact zqJ48  (by omega) _ _ _ hP hD hS (lv_sub hl [0, 1, 2, 3] rfl)
            · refine lv_iconst (v := nI 1) hx hb dX0_worthOfGrouping_43 (by decide +kernel) ?_
              refine lv_goto (tgt := 48) hx hb dX0_worthOfGrouping_44 (by decide) ?_
              refine q_top (y := q_b ((groT (g 28)) i j)) (by first | exact q_bt (decide_eq_true c_40) | exact q_bf (decide_eq_false (fun h => h c_40)) | exact q_bf (decide_eq_false c_40)) ?_
              exact zqJ48  (by omega) _ _ _ hP hD hS (lv_sub hl [0, 1, 2, 3] rfl)
      refine lv_iload_n hx hb dX0_worthOfGrouping_4 rfl (lv_at hl 2 rfl) ?_
      refine lv_aload_n hx hb dX0_worthOfGrouping_5 rfl (lv_at hl 0 rfl) ?_
      refine q_get hx hb hT hown hK hP kw_X0 0 rfl rfl 5 (by decide) kf_X0_32 rfl (v := .int (nI (z 3))) rfl dX0_worthOfGrouping_6 ?_
      refine lv_icmp_ge (tgt := 99) hx hb dX0_worthOfGrouping_9 (by decide) (fun c_9 => ?_) (fun c_9 => ?_)
      · have c_9 := nI_le1 (a := z 3) (b := i) (by omega) (by omega) c_9
        refine lv_iload_n hx hb dX0_worthOfGrouping_99 rfl (lv_at hl 1 rfl) ?_
        exact q_iret hx hb hr hlk (by rw [show i = z 3 by omega]; exact wOf_ok (fun i2 j2 h1 h2 => hbd i2 j2 (by omega) h2)) hP hS dX0_worthOfGrouping_100
      · have c_9 := nI_le0 (a := z 3) (b := i) (by omega) (by omega) c_9
        refine lv_iload_n hx hb dX0_worthOfGrouping_12 rfl (lv_at hl 2 rfl) ?_
        refine lv_iconst (v := nI 1) hx hb dX0_worthOfGrouping_13 (by decide +kernel) ?_
        refine lv_iadd hx hb dX0_worthOfGrouping_14 ?_
        refine q_top (y := nI (i + 1)) (nI_add _ _) ?_
        refine lv_istore_n (lv' := [(3, .int (nI (i + 1))), (0, .ref (ad 73)), (1, .int (ouS (groT (g 28)) (g 25) (z 3) i)), (2, .int (nI i))]) hx hb dX0_worthOfGrouping_15 rfl hl (by decide) rfl (fun ls hl => ?_)
        have e9_0 : (ouS (groT (g 28)) (g 25) (z 3) i) = (ouS (groT (g 28)) (g 25) (z 3) i + inS (groT (g 28)) (g 25) i (i + 1)) := by first | with_reducible rfl | (rw [inS_0 (i + 1) (by omega), add_nI0])
        have hl9 : lv_has ls 5 [(0, .ref (ad 73)), (1, .int (ouS (groT (g 28)) (g 25) (z 3) i + inS (groT (g 28)) (g 25) i (i + 1))), (2, .int (nI i)), (3, .int (nI (i + 1)))] := lv_cast (l := [(0, .ref (ad 73)), (1, .int (ouS (groT (g 28)) (g 25) (z 3) i)), (2, .int (nI i)), (3, .int (nI (i + 1)))]) (lv_sub hl [1, 2, 3, 0] rfl) (congrArg (fun v9 : Int32 => ([(0, .ref (ad 73)), (1, .int v9), (2, .int (nI i)), (3, .int (nI (i + 1)))] : List (Nat × Value))) e9_0)
        exact zqL16 (z 3 + 1) (i + 1) (by omega) (by omega) (by omega) (by omega) (fun i2 j2 h1 h2 h3 => by rcases h1 with h1 | ⟨h1, h4⟩; exact hbd i2 j2 h1 h2 h3; exact absurd h3.1 (by omega)) _ _ _ hP hD hS hl9
  refine lv_iconst (v := nI 0) hx hb dX0_worthOfGrouping_0 (by decide +kernel) ?_
  refine lv_istore_n (lv' := [(1, .int (nI 0)), (0, .ref (ad 73))]) hx hb dX0_worthOfGrouping_1 rfl hl (by decide) rfl (fun ls hl => ?_)
  refine lv_iconst (v := nI 0) hx hb dX0_worthOfGrouping_2 (by decide +kernel) ?_
  refine lv_istore_n (lv' := [(2, .int (nI 0)), (1, .int (nI 0)), (0, .ref (ad 73))]) hx hb dX0_worthOfGrouping_3 rfl hl (by decide) rfl (fun ls hl => ?_)
  have e9_0 : (nI 0) = (ouS (groT (g 28)) (g 25) (z 3) 0) := by first | with_reducible rfl | (rfl)
  have hl9 : lv_has ls 5 [(0, .ref (ad 73)), (1, .int (ouS (groT (g 28)) (g 25) (z 3) 0)), (2, .int (nI 0))] := lv_cast (l := [(0, .ref (ad 73)), (1, .int (nI 0)), (2, .int (nI 0))]) (lv_sub hl [2, 1, 0] rfl) (congrArg (fun v9 : Int32 => ([(0, .ref (ad 73)), (1, .int v9), (2, .int (nI 0))] : List (Nat × Value))) e9_0)
  exact zqL4 (z 3 + 1) 0 (by omega) (by omega) (fun _ _ h => absurd h (Nat.not_lt_zero _)) _ _ _ hP hD hS hl9
