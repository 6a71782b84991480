/-- where one goes in a career, from place p down -/
def insC (F cr : Nat → Int32) (x : Nat) : Nat → Nat → Int32
  | 0 => upd cr 0 (nI x)
  | p + 1 => if F x < F (q_n (cr p)) then insC F (upd cr (p + 1) (cr p)) x p else upd cr (p + 1) (nI x)
theorem insC_0 {F cr : Nat → Int32} {x : Nat} : insC F cr x 0 = upd cr 0 (nI x) := by rw [insC]
theorem insC_t {F cr : Nat → Int32} {x p : Nat} (h : F x < F (q_n (cr p))) : insC F cr x (p + 1) = insC F (upd cr (p + 1) (cr p)) x p := by rw [insC, if_pos h]
theorem insC_f {F cr : Nat → Int32} {x p : Nat} (h : ¬ F x < F (q_n (cr p))) : insC F cr x (p + 1) = upd cr (p + 1) (nI x) := by rw [insC, if_neg h]
theorem insC_hi {F : Nat → Int32} {x : Nat} : ∀ (p : Nat) (cr : Nat → Int32) (j : Nat), p < j → insC F cr x p j = cr j
  | 0, cr, j, h => by rw [insC]; simp [upd, show j ≠ 0 by omega]
  | p + 1, cr, j, h => by
    rw [insC]; split
    · rw [insC_hi p _ j (by omega)]; simp [upd, show j ≠ p + 1 by omega]
    · simp [upd, show j ≠ p + 1 by omega]
theorem insC_r {F : Nat → Int32} {x : Nat} (hx : x < 16) : ∀ (p : Nat) (cr : Nat → Int32), (∀ j, j < p → q_r (cr j) 16) → ∀ j, j < p + 1 → q_r (insC F cr x p j) 16
  | 0, cr, h, j, hj => by
    rw [show j = 0 by omega, insC]; simp only [upd, if_true]; exact q_r_nI hx
  | p + 1, cr, h, j, hj => by
    rw [insC]; split
    · by_cases e : j = p + 1
      · subst e
        rw [insC_hi p _ _ (by omega)]; simp only [upd, if_true]; exact h p (by omega)
      · refine insC_r hx p _ (fun i hi => ?_) j (by omega)
        simp only [upd, show i ≠ p + 1 by omega, if_false]; exact h i (by omega)
    · by_cases e : j = p + 1
      · subst e; simp only [upd, if_true]; exact q_r_nI hx
      · simp only [upd, e, if_false]; exact h j (by omega)
/-- the career of a person among the first k mentions: how long, and its row -/
def layL (g : Nat → Nat → Int32) (w : Int32) : Nat → Nat
  | 0 => 0
  | k + 1 => if g 22 k = w ∧ ¬ g 3 k = (-1) then layL g w k + 1 else layL g w k
def layR (g : Nat → Nat → Int32) (w : Int32) : Nat → Nat → Int32
  | 0 => g 6
  | k + 1 => if g 22 k = w ∧ ¬ g 3 k = (-1) then insC (g 17) (layR g w k) k (layL g w k) else layR g w k
theorem layL_le (g : Nat → Nat → Int32) (w : Int32) : ∀ k, layL g w k ≤ k
  | 0 => Nat.le_refl 0
  | k + 1 => by
    have := layL_le g w k
    rw [layL]; split <;> omega
theorem layR_r (g : Nat → Nat → Int32) (w : Int32) : ∀ k, k ≤ 16 → ∀ j, j < layL g w k → q_r (layR g w k j) 16
  | 0, _, j, hj => by simp [layL] at hj
  | k + 1, hk, j, hj => by
    rw [layL] at hj; rw [layR]
    split at hj
    · rename_i h
      rw [if_pos h]
      exact insC_r (by omega) _ _ (layR_r g w k (by omega)) j hj
    · rename_i h
      rw [if_neg h]
      exact layR_r g w k (by omega) j hj
theorem lay_t {g : Nat → Nat → Int32} {w : Int32} {k : Nat} (h : g 22 k = w) (h2 : ¬ g 3 k = (-1)) : layL g w k + 1 = layL g w (k + 1) ∧ insC (g 17) (layR g w k) k (layL g w k) = layR g w (k + 1) := ⟨by rw [layL, if_pos ⟨h, h2⟩], by rw [layR, if_pos ⟨h, h2⟩]⟩
theorem lay_f {g : Nat → Nat → Int32} {w : Int32} {k : Nat} (h : ¬ (g 22 k = w ∧ ¬ g 3 k = (-1))) : layL g w k = layL g w (k + 1) ∧ layR g w k = layR g w (k + 1) := ⟨by rw [layL, if_neg h], by rw [layR, if_neg h]⟩
/-- steps -/
def rkN (ow kk st : Nat → Int32) (k : Nat) (x : Int32) : Nat → Nat → Int32
  | 0 => st
  | j + 1 => if hasB (kk k) (nI j) = true ∧ rkN ow kk st k x j (q_n (ow j)) = (-1) then upd (rkN ow kk st k x j) (q_n (ow j)) x else rkN ow kk st k x j
def soN (ow kk st : Nat → Int32) (c0 : Nat) (x : Nat) : Nat → Nat → Int32
  | 0 => st
  | k + 1 => if soN ow kk st c0 x k (q_n (ow k)) = nI x then rkN ow kk (soN ow kk st c0 x k) k (nI (x + 1)) c0 else soN ow kk st c0 x k
def sbN (ow kk st : Nat → Int32) (c0 b : Nat) : Nat → Nat → Int32
  | 0 => st
  | t + 1 => if sbN ow kk st c0 b t b = (-1) then soN ow kk (sbN ow kk st c0 b t) c0 t c0 else sbN ow kk st c0 b t
theorem rkN_t {ow kk st : Nat → Int32} {k j : Nat} {x : Int32} (h : hasB (kk k) (nI j) = true) (h2 : rkN ow kk st k x j (q_n (ow j)) = (-1)) : upd (rkN ow kk st k x j) (q_n (ow j)) x = rkN ow kk st k x (j + 1) := by rw [rkN, if_pos ⟨h, h2⟩]
theorem rkN_f {ow kk st : Nat → Int32} {k j : Nat} {x : Int32} (h : ¬ (hasB (kk k) (nI j) = true ∧ rkN ow kk st k x j (q_n (ow j)) = (-1))) : rkN ow kk st k x j = rkN ow kk st k x (j + 1) := by rw [rkN, if_neg h]
theorem rkN_0 {ow kk st : Nat → Int32} {k : Nat} {x : Int32} : rkN ow kk st k x 0 = st := rfl
theorem soN_0 {ow kk st : Nat → Int32} {c0 x : Nat} : soN ow kk st c0 x 0 = st := rfl
theorem sbN_0 {ow kk st : Nat → Int32} {c0 b : Nat} : sbN ow kk st c0 b 0 = st := rfl
theorem soN_t {ow kk st : Nat → Int32} {c0 x k : Nat} (h : soN ow kk st c0 x k (q_n (ow k)) = nI x) : rkN ow kk (soN ow kk st c0 x k) k (nI (x + 1)) c0 = soN ow kk st c0 x (k + 1) := by rw [soN, if_pos h]
theorem soN_f {ow kk st : Nat → Int32} {c0 x k : Nat} (h : ¬ soN ow kk st c0 x k (q_n (ow k)) = nI x) : soN ow kk st c0 x k = soN ow kk st c0 x (k + 1) := by rw [soN, if_neg h]
theorem sbN_t {ow kk st : Nat → Int32} {c0 b t : Nat} (h : sbN ow kk st c0 b t b = (-1)) : soN ow kk (sbN ow kk st c0 b t) c0 t c0 = sbN ow kk st c0 b (t + 1) := by rw [sbN, if_pos h]
theorem sbN_stop {ow kk st : Nat → Int32} {c0 b t : Nat} (h : ¬ sbN ow kk st c0 b t b = (-1)) : ∀ i, sbN ow kk st c0 b (t + i) = sbN ow kk st c0 b t
  | 0 => rfl
  | i + 1 => by
    have := sbN_stop h i
    rw [← Nat.add_assoc, sbN, this, if_neg h]
theorem sbN_end {ow kk st : Nat → Int32} {c0 b t : Nat} (ht : t ≤ c0) (h : ¬ sbN ow kk st c0 b t b = (-1)) : sbN ow kk st c0 b t = sbN ow kk st c0 b c0 := by
  have := sbN_stop h (c0 - t)
  rw [show t + (c0 - t) = c0 by omega] at this
  exact this.symm
/-- the chosen ones by bits -/
def bitC (x : Int32) : Nat → Nat
  | 0 => 0
  | k + 1 => if hasB x (nI k) = true then bitC x k + 1 else bitC x k
def lopM (x : Int32) (f : Nat → Int32) : Nat → Nat → Int32
  | 0 => f
  | k + 1 => if hasB x (nI k) = true then upd (lopM x f k) (bitC x k) (nI k) else lopM x f k
theorem bitC_mono (x : Int32) {j : Nat} : ∀ k, j ≤ k → bitC x j ≤ bitC x k
  | 0, h => by rw [show j = 0 by omega]; exact Nat.le_refl _
  | k + 1, h => by
    rcases Nat.lt_or_ge j (k + 1) with q | q
    · have := bitC_mono x (j := j) k (by omega)
      rw [bitC]; split <;> omega
    · rw [show j = k + 1 by omega]; exact Nat.le_refl _
theorem lopM_r (x : Int32) (f : Nat → Int32) : ∀ k, k ≤ 16 → ∀ j, j < bitC x k → q_r (lopM x f k j) 16
  | 0, _, j, hj => by simp [bitC] at hj
  | k + 1, hk, j, hj => by
    rw [bitC] at hj; rw [lopM]
    split at hj
    · rename_i h
      rw [if_pos h]
      by_cases e : j = bitC x k
      · simp only [upd, e, if_true]; exact q_r_nI (by omega)
      · simp only [upd, e, if_false]; exact lopM_r x f k (by omega) j (by omega)
    · rename_i h
      rw [if_neg h]
      exact lopM_r x f k (by omega) j hj
theorem lop_t {x : Int32} {f : Nat → Int32} {k : Nat} (h : hasB x (nI k) = true) : upd (lopM x f k) (bitC x k) (nI k) = lopM x f (k + 1) ∧ bitC x k + 1 = bitC x (k + 1) := ⟨by rw [lopM, if_pos h], by rw [bitC, if_pos h]⟩
theorem lop_f {x : Int32} {f : Nat → Int32} {k : Nat} (h : hasB x (nI k) = false) : lopM x f k = lopM x f (k + 1) ∧ bitC x k = bitC x (k + 1) := ⟨by rw [lopM, if_neg (by rw [h]; exact Bool.false_ne_true)], by rw [bitC, if_neg (by rw [h]; exact Bool.false_ne_true)]⟩
def lpJ (ww : Nat → Nat → Int32) (pw : Nat → Int32) (i : Nat) : Nat → Nat → Int32
  | 0 => pw
  | j + 1 => if i < j then upd (lpJ ww pw i j) (i * 6 + j) (ww i j) else lpJ ww pw i j
def lpO (ww : Nat → Nat → Int32) (pw : Nat → Int32) (n : Nat) : Nat → Nat → Int32
  | 0 => pw
  | i + 1 => lpJ ww (lpO ww pw n i) i n
theorem lpJ_0 {ww : Nat → Nat → Int32} {pw : Nat → Int32} {i : Nat} : ∀ j, j ≤ i + 1 → lpJ ww pw i j = pw
  | 0, _ => rfl
  | j + 1, h => by rw [lpJ, if_neg (by omega), lpJ_0 j (by omega)]
theorem lpJ_s {ww : Nat → Nat → Int32} {pw : Nat → Int32} {i j : Nat} (h : i < j) : upd (lpJ ww pw i j) (i * 6 + j) (ww i j) = lpJ ww pw i (j + 1) := by rw [lpJ, if_pos h]
theorem lpO_0 {ww : Nat → Nat → Int32} {pw : Nat → Int32} {n : Nat} : lpO ww pw n 0 = pw := rfl
theorem lpO_s {ww : Nat → Nat → Int32} {pw : Nat → Int32} {n i : Nat} : lpJ ww (lpO ww pw n i) i n = lpO ww pw n (i + 1) := rfl
def wopM (g : Nat → Nat → Int32) (me : Nat → Int32) (i j : Nat) : Int32 := wop g (q_n (me i)) (q_n (me j))
abbrev rm_X5_putInCareer : Room := { frames := 2, cells := 0, slots := 0, locals := 42 }
set_option maxRecDepth 100000 in
set_option maxHeartbeats 4000000 in
theorem c_X5_putInCareer (l : Launch) (D : va_G) (cA : ClassId) (ad : Nat → Nat) (g : Nat → Nat → Int32) (z : Nat → Nat) (x : Nat) (n : Nat) (hx9 : x < 16) (hn9 : n < 16) (hcr : ∀ j, j < n → q_r ((g 6) j) 16) : q_CV l yX5_putInCareer [Cond.code yX5_putInCareer cX5_putInCareer 4 none] rm_X5_putInCareer D cA [.ref (ad 70), .int (nI x), .int (nI n)] (rlW cA ad g z) (rlW cA ad (gs g 6 (insC (g 17) (g 6) x n)) z) := by
  refine q_startV RX5 (by decide +kernel) rfl (Nat.le_of_ble_eq_true rfl) ?_
  intro p e s m below meth c A args H locs ls hx hb hr hml hown hT hlk hP hK hD hA hS hl
  have hl : lv_has ls 4 [(0, .ref (ad 70)), (1, .int (nI x)), (2, .int (nI n))] := hl
  have zqL2 : ∀ (fu : Nat), ∀ (pl : Nat) (cr : Nat → Int32), (pl + 1 ≤ fu) → (pl ≤ n) → (∀ j, j < pl → q_r (cr j) 16) → (insC (g 17) cr x pl = insC (g 17) (g 6) x n) → ∀ (H : Heap) (locs : List Loc) (ls : Array Slot), va_P D vwCl (rlW cA ad (gs g 6 cr) z) H → va_D A (rlW cA ad (gs g 6 cr) z) → va_S A s.heap H locs → lv_has ls 4 [(0, .ref (ad 70)), (1, .int (nI x)), (2, .int (nI n)), (3, .int (nI pl))] → W p l e rm_X5_putInCareer s m args below meth c H locs 0 0 (q_GV D (rlW cA ad (gs g 6 (insC (g 17) (g 6) x n)) z) A below args s) (F0 m 2 ls []) := by
    intro fu
    induction fu with
    | zero =>
      intro pl cr hfu hpl hr9 he H locs ls hP hD hS hl
      exfalso; omega
    | succ fu ih2 =>
      intro pl cr hfu hpl hr9 he H locs ls hP hD hS hl
      have zqJ58 : (insC (g 17) cr x pl = upd cr pl (nI x)) → ∀ (H : Heap) (locs : List Loc) (ls : Array Slot), va_P D vwCl (rlW cA ad (gs g 6 cr) z) H → va_D A (rlW cA ad (gs g 6 cr) z) → va_S A s.heap H locs → lv_has ls 4 [(0, .ref (ad 70)), (1, .int (nI x)), (2, .int (nI n)), (3, .int (nI pl))] → W p l e rm_X5_putInCareer s m args below meth c H locs 0 0 (q_GV D (rlW cA ad (gs g 6 (insC (g 17) (g 6) x n)) z) A below args s) (F0 m 58 ls []) := by
        intro  hf9 H locs ls hP hD hS hl
        refine lv_aload_n hx hb dX5_putInCareer_58 rfl (lv_at hl 0 rfl) ?_
        refine q_get hx hb hT hown hK hP kw_X5 0 rfl rfl 13 (by decide) kf_X5_70 rfl (v := .ref (ad 6)) rfl dX5_putInCareer_59 ?_
        refine lv_iload_n hx hb dX5_putInCareer_62 rfl (lv_at hl 3 rfl) ?_
        refine lv_iload_n hx hb dX5_putInCareer_63 rfl (lv_at hl 1 rfl) ?_
        refine q_callV (As := [.int (nI pl), .int (nI x)]) (wc := rowW cA (ad 6) (ad 36) 16 cr) (w1 := rowW cA (ad 6) (ad 36) 16 (upd cr pl (nI x))) (ws1 := rlW cA ad (gs g 6 (upd cr pl (nI x))) z) hx hb hml hown hT hK hP hD hS hA (c_X3_putN l D cA (ad 6) (ad 36) 16 cr pl (nI x) (by omega) (by omega)) k_X3_put kl_X5_76 (q0 := 0) rfl rfl rfl [13, 14] rfl rfl rfl rfl hl rfl rfl (Nat.le_of_ble_eq_true rfl) ⟨⟨rfl, rfl⟩, Nat.le_of_ble_eq_true rfl, Nat.le_of_ble_eq_true rfl⟩ ⟨Nat.zero_le _, Nat.zero_le _⟩ dX5_putInCareer_64 (fun H locs hP hD hS => ?_)
        obtain ⟨nF64_6, enF64_6⟩ : ∃ y : Nat → Int32, y = upd cr pl (nI x) := ⟨_, rfl⟩
        have hP : va_P D vwCl (rlW cA ad (gs g 6 nF64_6) z) H := by rw [enF64_6]; exact hP
        have hD : va_D A (rlW cA ad (gs g 6 nF64_6) z) := by rw [enF64_6]; exact hD
        rw [enF64_6] at hP hD
        exact q_vret hx hb hr hlk (va_cast' hP (by rw [← hf9, he])) hS dX5_putInCareer_67
      refine lv_iload_n hx hb dX5_putInCareer_2 rfl (lv_at hl 3 rfl) ?_
      refine lv_if_le (tgt := 58) hx hb dX5_putInCareer_3 (by decide) (fun c_3 => ?_) (fun c_3 => ?_)
      · have c_3 := nI_le1 (a := pl) (b := 0) (by omega) (by omega) c_3
        exact zqJ58  (by first | (rw [show pl = 0 by omega]; exact insC_0) | (obtain ⟨p9, rfl⟩ : ∃ p9, pl = p9 + 1 := ⟨pl - 1, by omega⟩; exact insC_f d_31)) _ _ _ hP hD hS (lv_sub hl [0, 1, 2, 3] rfl)
      · have c_3 := nI_le0 (a := pl) (b := 0) (by omega) (by omega) c_3
        refine lv_aload_n hx hb dX5_putInCareer_6 rfl (lv_at hl 0 rfl) ?_
        refine q_get hx hb hT hown hK hP kw_X5 0 rfl rfl 10 (by decide) kf_X5_52 rfl (v := .ref (ad 71)) rfl dX5_putInCareer_7 ?_
        refine lv_aload_n hx hb dX5_putInCareer_10 rfl (lv_at hl 0 rfl) ?_
        refine q_get hx hb hT hown hK hP kw_X5 0 rfl rfl 13 (by decide) kf_X5_70 rfl (v := .ref (ad 6)) rfl dX5_putInCareer_11 ?_
        refine lv_iload_n hx hb dX5_putInCareer_14 rfl (lv_at hl 3 rfl) ?_
        refine lv_iconst (v := nI 1) hx hb dX5_putInCareer_15 (by decide +kernel) ?_
        refine lv_isub hx hb dX5_putInCareer_16 ?_
        refine q_top (y := nI (pl - 1)) (pk_sub (by omega)) ?_
        refine q_callI (As := [.int (nI (pl - 1))]) (r := cr (pl - 1)) (wc := rowW cA (ad 6) (ad 36) 16 cr) (w1 := rowW cA (ad 6) (ad 36) 16 cr) (ws1 := rlW cA ad (gs g 6 cr) z) hx hb hml hown hT hK hP hD hS hA (c_X3_atN l D cA (ad 6) (ad 36) 16 cr (pl - 1) (by omega) (by omega)) k_X3_at kl_X5_105 (q0 := 0) rfl rfl rfl [13, 14] rfl rfl rfl rfl hl rfl rfl (Nat.le_of_ble_eq_true rfl) ⟨⟨rfl, rfl⟩, Nat.le_of_ble_eq_true rfl, Nat.le_of_ble_eq_true rfl⟩ ⟨Nat.zero_le _, Nat.zero_le _⟩ dX5_putInCareer_17 (fun H locs hP hD hS => ?_)
        refine q_top (y := nI (q_n (cr (pl - 1)))) ((hr9 (pl - 1) (by omega)).eq (by omega)) ?_
        refine q_callIS (As := [.int (nI (q_n (cr (pl - 1))))]) (r := (g 17) (q_n (cr (pl - 1)))) (wc := yrW cA ad (gs g 6 cr) z) (w1 := yrW cA ad (gs g 6 cr) z) (ws1 := rlW cA ad (gs g 6 cr) z) hx hb hml hown hT hK hP hD hS hA (c_X4_firstOf l D cA ad (gs g 6 cr) z (q_n (cr (pl - 1))) ((hr9 (pl - 1) (by omega)).lt (by omega))) k_X4_firstOf kl_X5_146 (q0 := 0) rfl rfl rfl (rl_a cA ad (gs g 6 cr) z) (psW cA ad (gs g 6 cr) z ++ gpW cA ad (gs g 6 cr) z) rfl (rl_y rfl rfl rfl) ((yrW_adr _ _ _ _).trans (yrW_adr _ _ _ _).symm) hl rfl rfl (Nat.le_of_ble_eq_true rfl) ⟨⟨rfl, rfl⟩, Nat.le_of_ble_eq_true rfl, Nat.le_of_ble_eq_true rfl⟩ ⟨Nat.zero_le _, Nat.zero_le _⟩ dX5_putInCareer_20 (fun H locs hP hD hS => ?_)
        refine lv_aload_n hx hb dX5_putInCareer_23 rfl (lv_at hl 0 rfl) ?_
        refine q_get hx hb hT hown hK hP kw_X5 0 rfl rfl 10 (by decide) kf_X5_52 rfl (v := .ref (ad 71)) rfl dX5_putInCareer_24 ?_
        refine lv_iload_n hx hb dX5_putInCareer_27 rfl (lv_at hl 1 rfl) ?_
        refine q_callIS (As := [.int (nI x)]) (r := (g 17) x) (wc := yrW cA ad (gs g 6 cr) z) (w1 := yrW cA ad (gs g 6 cr) z) (ws1 := rlW cA ad (gs g 6 cr) z) hx hb hml hown hT hK hP hD hS hA (c_X4_firstOf l D cA ad (gs g 6 cr) z x (show x < 16 by omega)) k_X4_firstOf kl_X5_146 (q0 := 0) rfl rfl rfl (rl_a cA ad (gs g 6 cr) z) (psW cA ad (gs g 6 cr) z ++ gpW cA ad (gs g 6 cr) z) rfl (rl_y rfl rfl rfl) ((yrW_adr _ _ _ _).trans (yrW_adr _ _ _ _).symm) hl rfl rfl (Nat.le_of_ble_eq_true rfl) ⟨⟨rfl, rfl⟩, Nat.le_of_ble_eq_true rfl, Nat.le_of_ble_eq_true rfl⟩ ⟨Nat.zero_le _, Nat.zero_le _⟩ dX5_putInCareer_28 (fun H locs hP hD hS => ?_)
        refine lv_icmp_le (tgt := 58) hx hb dX5_putInCareer_31 (by decide) (fun c_31 => ?_) (fun c_31 => ?_)
        · have d_31 := q_nlt3 c_31
          exact zqJ58  (by first | (rw [show pl = 0 by omega]; exact insC_0) | (obtain ⟨p9, rfl⟩ : ∃ p9, pl = p9 + 1 := ⟨pl - 1, by omega⟩; exact insC_f d_31)) _ _ _ hP hD hS (lv_sub hl [0, 1, 2, 3] rfl)
        · have d_31 := q_lt3 c_31
          refine lv_aload_n hx hb dX5_putInCareer_34 rfl (lv_at hl 0 rfl) ?_
          refine q_get hx hb hT hown hK hP kw_X5 0 rfl rfl 13 (by decide) kf_X5_70 rfl (v := .ref (ad 6)) rfl dX5_putInCareer_35 ?_
          refine lv_iload_n hx hb dX5_putInCareer_38 rfl (lv_at hl 3 rfl) ?_
          refine lv_aload_n hx hb dX5_putInCareer_39 rfl (lv_at hl 0 rfl) ?_
          refine q_get hx hb hT hown hK hP kw_X5 0 rfl rfl 13 (by decide) kf_X5_70 rfl (v := .ref (ad 6)) rfl dX5_putInCareer_40 ?_
          refine lv_iload_n hx hb dX5_putInCareer_43 rfl (lv_at hl 3 rfl) ?_
          refine lv_iconst (v := nI 1) hx hb dX5_putInCareer_44 (by decide +kernel) ?_
          refine lv_isub hx hb dX5_putInCareer_45 ?_
          refine q_top (y := nI (pl - 1)) (pk_sub (by omega)) ?_
          refine q_callI (As := [.int (nI (pl - 1))]) (r := cr (pl - 1)) (wc := rowW cA (ad 6) (ad 36) 16 cr) (w1 := rowW cA (ad 6) (ad 36) 16 cr) (ws1 := rlW cA ad (gs g 6 cr) z) hx hb hml hown hT hK hP hD hS hA (c_X3_atN l D cA (ad 6) (ad 36) 16 cr (pl - 1) (by omega) (by omega)) k_X3_at kl_X5_105 (q0 := 0) rfl rfl rfl [13, 14] rfl rfl rfl rfl hl rfl rfl (Nat.le_of_ble_eq_true rfl) ⟨⟨rfl, rfl⟩, Nat.le_of_ble_eq_true rfl, Nat.le_of_ble_eq_true rfl⟩ ⟨Nat.zero_le _, Nat.zero_le _⟩ dX5_putInCareer_46 (fun H locs hP hD hS => ?_)
          refine q_callV (As := [.int (nI pl), .int (cr (pl - 1))]) (wc := rowW cA (ad 6) (ad 36) 16 cr) (w1 := rowW cA (ad 6) (ad 36) 16 (upd cr pl (cr (pl - 1)))) (ws1 := rlW cA ad (gs g 6 (upd cr pl (cr (pl - 1)))) z) hx hb hml hown hT hK hP hD hS hA (c_X3_putN l D cA (ad 6) (ad 36) 16 cr pl (cr (pl - 1)) (by omega) (by omega)) k_X3_put kl_X5_76 (q0 := 0) rfl rfl rfl [13, 14] rfl rfl rfl rfl hl rfl rfl (Nat.le_of_ble_eq_true rfl) ⟨⟨rfl, rfl⟩, Nat.le_of_ble_eq_true rfl, Nat.le_of_ble_eq_true rfl⟩ ⟨Nat.zero_le _, Nat.zero_le _⟩ dX5_putInCareer_49 (fun H locs hP hD hS => ?_)
          obtain ⟨nF49_6, enF49_6⟩ : ∃ y : Nat → Int32, y = upd cr pl (cr (pl - 1)) := ⟨_, rfl⟩
          have hP : va_P D vwCl (rlW cA ad (gs g 6 nF49_6) z) H := by rw [enF49_6]; exact hP
          have hD : va_D A (rlW cA ad (gs g 6 nF49_6) z) := by rw [enF49_6]; exact hD
          refine lv_iinc (v := nI (pl - 1)) (lv' := [(3, .int (nI (pl - 1))), (0, .ref (ad 70)), (1, .int (nI x)), (2, .int (nI n))]) hx hb dX5_putInCareer_52 hl (k := 3) rfl (q_dec1 (by omega)) (by decide) rfl (fun ls hl => ?_)
          refine lv_goto (tgt := 2) hx hb dX5_putInCareer_55 (by decide) ?_
          rw [enF49_6] at hP hD
          exact ih2 (pl - 1) (upd cr pl (cr (pl - 1))) (by omega) (by omega) (fun j hj => by simp only [upd, show j ≠ pl by omega, if_false]; exact hr9 j (by omega)) (by rw [← he]; obtain ⟨p9, rfl⟩ : ∃ p9, pl = p9 + 1 := ⟨pl - 1, by omega⟩; exact (insC_t d_31).symm) _ _ _ hP hD hS (lv_sub hl [1, 2, 3, 0] rfl)
  refine lv_iload_n hx hb dX5_putInCareer_0 rfl (lv_at hl 2 rfl) ?_
  refine lv_istore_n (lv' := [(3, .int (nI n)), (0, .ref (ad 70)), (1, .int (nI x)), (2, .int (nI n))]) hx hb dX5_putInCareer_1 rfl hl (by decide) rfl (fun ls hl => ?_)
  have ew9 : (rlW cA ad g z) = (rlW cA ad (gs g 6 (g 6)) z) := by first | with_reducible rfl | (rfl)
  have hP : va_P D vwCl (rlW cA ad (gs g 6 (g 6)) z) H := va_cast' hP ew9
  have hD : va_D A (rlW cA ad (gs g 6 (g 6)) z) := va_castD hD ew9
  exact zqL2 (n + 1) n (g 6) (by omega) (by omega) hcr rfl _ _ _ hP hD hS (lv_sub hl [1, 2, 3, 0] rfl)
abbrev rm_X5_layOutCareer : Room := { frames := 3, cells := 0, slots := 0, locals := 65 }
set_option maxRecDepth 100000 in
set_option maxHeartbeats 4000000 in
theorem c_X5_layOutCareer (l : Launch) (D : va_G) (cA : ClassId) (ad : Nat → Nat) (g : Nat → Nat → Int32) (z : Nat → Nat) (w : Int32) (hc : (z 0) ≤ 16) : q_CI l yX5_layOutCareer [Cond.code yX5_layOutCareer cX5_layOutCareer 4 (some .int)] rm_X5_layOutCareer D cA [.ref (ad 70), .int w] (rlW cA ad g z) (nI (layL g w (z 0))) (rlW cA ad (gs g 6 (layR g w (z 0))) z) := by
  refine q_startI RX5 (by decide +kernel) rfl (Nat.le_of_ble_eq_true rfl) ?_
  intro p e s m below meth c A args H locs ls hx hb hr hml hown hT hlk hP hK hD hA hS hl
  have hl : lv_has ls 4 [(0, .ref (ad 70)), (1, .int w)] := hl
  have hl9 := fun k => layL_le g w k
  have zqL4 : ∀ (fu : Nat), ∀ (k : Nat), (z 0 + 1 ≤ k + fu) → (k ≤ (z 0)) → ∀ (H : Heap) (locs : List Loc) (ls : Array Slot), va_P D vwCl (rlW cA ad (gs g 6 (layR g w k)) z) H → va_D A (rlW cA ad (gs g 6 (layR g w k)) z) → va_S A s.heap H locs → lv_has ls 4 [(0, .ref (ad 70)), (1, .int w), (2, .int (nI (layL g w k))), (3, .int (nI k))] → W p l e rm_X5_layOutCareer s m args below meth c H locs 0 0 (q_GI D (nI (layL g w (z 0))) (rlW cA ad (gs g 6 (layR g w (z 0))) z) A below args s) (F0 m 4 ls []) := by
    intro fu
    induction fu with
    | zero =>
      intro k hfu hk H locs ls hP hD hS hl
      exfalso; omega
    | succ fu ih4 =>
      intro k hfu hk H locs ls hP hD hS hl
      have zqJ45 : (k < (z 0)) → ∀ (H : Heap) (locs : List Loc) (ls : Array Slot), va_P D vwCl (rlW cA ad (gs g 6 (layR g w (k + 1))) z) H → va_D A (rlW cA ad (gs g 6 (layR g w (k + 1))) z) → va_S A s.heap H locs → lv_has ls 4 [(0, .ref (ad 70)), (1, .int w), (2, .int (nI (layL g w (k + 1)))), (3, .int (nI k))] → W p l e rm_X5_layOutCareer s m args below meth c H locs 0 0 (q_GI D (nI (layL g w (z 0))) (rlW cA ad (gs g 6 (layR g w (z 0))) z) A below args s) (F0 m 45 ls []) := by
        intro  hk9 H locs ls hP hD hS hl
        refine lv_iinc (v := nI (k + 1)) (lv' := [(3, .int (nI (k + 1))), (0, .ref (ad 70)), (1, .int w), (2, .int (nI (layL g w (k + 1))))]) hx hb dX5_layOutCareer_45 hl (k := 3) rfl (q_inc1 _) (by decide) rfl (fun ls hl => ?_)
        refine lv_goto (tgt := 4) hx hb dX5_layOutCareer_48 (by decide) ?_
        exact ih4 (k + 1) (by omega) (by omega) _ _ _ hP hD hS (lv_sub hl [1, 2, 3, 0] rfl)
      refine lv_iload_n hx hb dX5_layOutCareer_4 rfl (lv_at hl 3 rfl) ?_
      refine lv_aload_n hx hb dX5_layOutCareer_5 rfl (lv_at hl 0 rfl) ?_
      refine q_get hx hb hT hown hK hP kw_X5 0 rfl rfl 15 (by decide) kf_X5_87 rfl (v := .int (nI (z 0))) rfl dX5_layOutCareer_6 ?_
      refine lv_icmp_ge (tgt := 51) hx hb dX5_layOutCareer_9 (by decide) (fun c_9 => ?_) (fun c_9 => ?_)
      · have c_9 := nI_le1 (a := z 0) (b := k) (by omega) (by omega) c_9
        refine lv_iload_n hx hb dX5_layOutCareer_51 rfl (lv_at hl 2 rfl) ?_
        exact q_iret hx hb hr hlk (by rw [show k = z 0 by omega]) (va_cast' hP (by rw [show k = z 0 by omega])) hS dX5_layOutCareer_52
      · have c_9 := nI_le0 (a := z 0) (b := k) (by omega) (by omega) c_9
        refine lv_aload_n hx hb dX5_layOutCareer_12 rfl (lv_at hl 0 rfl) ?_
        refine q_get hx hb hT hown hK hP kw_X5 0 rfl rfl 11 (by decide) kf_X5_59 rfl (v := .ref (ad 72)) rfl dX5_layOutCareer_13 ?_
        refine lv_iload_n hx hb dX5_layOutCareer_16 rfl (lv_at hl 3 rfl) ?_
        refine q_callIS (As := [.int (nI k)]) (r := (g 22) k) (wc := psW cA ad (gs g 6 (layR g w k)) z) (w1 := psW cA ad (gs g 6 (layR g w k)) z) (ws1 := rlW cA ad (gs g 6 (layR g w k)) z) hx hb hml hown hT hK hP hD hS hA (c_X2_ownerOf l D cA ad (gs g 6 (layR g w k)) z k (show k < 16 by omega)) k_X2_ownerOf kl_X5_164 (q0 := 0) rfl rfl rfl (rl_a cA ad (gs g 6 (layR g w k)) z ++ yrW cA ad (gs g 6 (layR g w k)) z) (gpW cA ad (gs g 6 (layR g w k)) z) (List.append_assoc _ _ _).symm (rl_p rfl rfl rfl) ((psW_adr _ _ _ _).trans (psW_adr _ _ _ _).symm) hl rfl rfl (Nat.le_of_ble_eq_true rfl) ⟨⟨rfl, rfl⟩, Nat.le_of_ble_eq_true rfl, Nat.le_of_ble_eq_true rfl⟩ ⟨Nat.zero_le _, Nat.zero_le _⟩ dX5_layOutCareer_17 (fun H locs hP hD hS => ?_)
        refine lv_iload_n hx hb dX5_layOutCareer_20 rfl (lv_at hl 1 rfl) ?_
        refine lv_icmp_ne (tgt := 45) hx hb dX5_layOutCareer_21 (by decide) (fun c_21 => ?_) (fun c_21 => ?_)
        · have e9_0 : (nI (layL g w k)) = (nI (layL g w (k + 1))) := by first | with_reducible rfl | (first | rw [(lay_f (fun h => c_21 h.1)).1] | rw [(lay_f (fun h => h.2 c_33)).1] | rw [(lay_t c_21 c_33).1])
          have hl9 : lv_has ls 4 [(0, .ref (ad 70)), (1, .int w), (2, .int (nI (layL g w (k + 1)))), (3, .int (nI k))] := lv_cast (l := [(0, .ref (ad 70)), (1, .int w), (2, .int (nI (layL g w k))), (3, .int (nI k))]) (lv_sub hl [0, 1, 2, 3] rfl) (congrArg (fun v9 : Int32 => ([(0, .ref (ad 70)), (1, .int w), (2, .int v9), (3, .int (nI k))] : List (Nat × Value))) e9_0)
          have ew9 : (rlW cA ad (gs g 6 (layR g w k)) z) = (rlW cA ad (gs g 6 (layR g w (k + 1))) z) := by first | with_reducible rfl | (first | rw [(lay_f (fun h => c_21 h.1)).2] | rw [(lay_f (fun h => h.2 c_33)).2] | rw [(lay_t c_21 c_33).2])
          have hP : va_P D vwCl (rlW cA ad (gs g 6 (layR g w (k + 1))) z) H := va_cast' hP ew9
          have hD : va_D A (rlW cA ad (gs g 6 (layR g w (k + 1))) z) := va_castD hD ew9
          exact zqJ45  (by omega) _ _ _ hP hD hS hl9
        · refine lv_aload_n hx hb dX5_layOutCareer_24 rfl (lv_at hl 0 rfl) ?_
          refine q_get hx hb hT hown hK hP kw_X5 0 rfl rfl 3 (by decide) kf_X5_24 rfl (v := .ref (ad 3)) rfl dX5_layOutCareer_25 ?_
          refine lv_iload_n hx hb dX5_layOutCareer_28 rfl (lv_at hl 3 rfl) ?_
          refine q_callI (As := [.int (nI k)]) (r := g 3 k) (wc := rowW cA (ad 3) (ad 33) 16 (g 3)) (w1 := rowW cA (ad 3) (ad 33) 16 (g 3)) (ws1 := rlW cA ad (gs g 6 (layR g w k)) z) hx hb hml hown hT hK hP hD hS hA (c_X3_atN l D cA (ad 3) (ad 33) 16 (g 3) k (by omega) (by omega)) k_X3_at kl_X5_105 (q0 := 0) rfl rfl rfl [7, 8] rfl rfl rfl rfl hl rfl rfl (Nat.le_of_ble_eq_true rfl) ⟨⟨rfl, rfl⟩, Nat.le_of_ble_eq_true rfl, Nat.le_of_ble_eq_true rfl⟩ ⟨Nat.zero_le _, Nat.zero_le _⟩ dX5_layOutCareer_29 (fun H locs hP hD hS => ?_)
          refine lv_iconst (v := (-1)) hx hb dX5_layOutCareer_32 (by decide +kernel) ?_
          refine lv_icmp_eq (tgt := 45) hx hb dX5_layOutCareer_33 (by decide) (fun c_33 => ?_) (fun c_33 => ?_)
          · have e9_0 : (nI (layL g w k)) = (nI (layL g w (k + 1))) := by first | with_reducible rfl | (first | rw [(lay_f (fun h => c_21 h.1)).1] | rw [(lay_f (fun h => h.2 c_33)).1] | rw [(lay_t c_21 c_33).1])
            have hl9 : lv_has ls 4 [(0, .ref (ad 70)), (1, .int w), (2, .int (nI (layL g w (k + 1)))), (3, .int (nI k))] := lv_cast (l := [(0, .ref (ad 70)), (1, .int w), (2, .int (nI (layL g w k))), (3, .int (nI k))]) (lv_sub hl [0, 1, 2, 3] rfl) (congrArg (fun v9 : Int32 => ([(0, .ref (ad 70)), (1, .int w), (2, .int v9), (3, .int (nI k))] : List (Nat × Value))) e9_0)
            have ew9 : (rlW cA ad (gs g 6 (layR g w k)) z) = (rlW cA ad (gs g 6 (layR g w (k + 1))) z) := by first | with_reducible rfl | (first | rw [(lay_f (fun h => c_21 h.1)).2] | rw [(lay_f (fun h => h.2 c_33)).2] | rw [(lay_t c_21 c_33).2])
            have hP : va_P D vwCl (rlW cA ad (gs g 6 (layR g w (k + 1))) z) H := va_cast' hP ew9
            have hD : va_D A (rlW cA ad (gs g 6 (layR g w (k + 1))) z) := va_castD hD ew9
            exact zqJ45  (by omega) _ _ _ hP hD hS hl9
          · have hly := layL_le g w k
            refine lv_aload_n hx hb dX5_layOutCareer_36 rfl (lv_at hl 0 rfl) ?_
            refine lv_iload_n hx hb dX5_layOutCareer_37 rfl (lv_at hl 3 rfl) ?_
            refine lv_iload_n hx hb dX5_layOutCareer_38 rfl (lv_at hl 2 rfl) ?_
            refine q_callVW (As := [.int (nI k), .int (nI (layL g w k))]) (w1 := rlW cA ad (gs g 6 (insC (g 17) (layR g w k) k (layL g w k))) z) hx hb hml hown hT hK hP hD hS hA (c_X5_putInCareer l D cA ad (gs g 6 (layR g w k)) z k (layL g w k) (show k < 16 by omega) (show (layL g w k) < 16 by omega) (layR_r g w k (by omega))) k_X5_putInCareer kl_X5_266 (q0 := 0) rfl rfl rfl ((rlW_adr _ _ _ _).trans (rlW_adr _ _ _ _).symm) hl rfl rfl (Nat.le_of_ble_eq_true rfl) ⟨⟨rfl, rfl⟩, Nat.le_of_ble_eq_true rfl, Nat.le_of_ble_eq_true rfl⟩ ⟨Nat.zero_le _, Nat.zero_le _⟩ dX5_layOutCareer_39 (fun H locs hP hD hS => ?_)
            obtain ⟨nF39_6, enF39_6⟩ : ∃ y : Nat → Int32, y = insC (g 17) (layR g w k) k (layL g w k) := ⟨_, rfl⟩
            have hP : va_P D vwCl (rlW cA ad (gs g 6 nF39_6) z) H := by rw [enF39_6]; exact hP
            have hD : va_D A (rlW cA ad (gs g 6 nF39_6) z) := by rw [enF39_6]; exact hD
            refine lv_iinc (v := nI (layL g w k + 1)) (lv' := [(2, .int (nI (layL g w k + 1))), (0, .ref (ad 70)), (1, .int w), (3, .int (nI k))]) hx hb dX5_layOutCareer_42 hl (k := 2) rfl (q_inc1 _) (by decide) rfl (fun ls hl => ?_)
            rw [enF39_6] at hP hD
            have e9_0 : (nI (layL g w k + 1)) = (nI (layL g w (k + 1))) := by first | with_reducible rfl | (first | rw [(lay_f (fun h => c_21 h.1)).1] | rw [(lay_f (fun h => h.2 c_33)).1] | rw [(lay_t c_21 c_33).1])
            have hl9 : lv_has ls 4 [(0, .ref (ad 70)), (1, .int w), (2, .int (nI (layL g w (k + 1)))), (3, .int (nI k))] := lv_cast (l := [(0, .ref (ad 70)), (1, .int w), (2, .int (nI (layL g w k + 1))), (3, .int (nI k))]) (lv_sub hl [1, 2, 0, 3] rfl) (congrArg (fun v9 : Int32 => ([(0, .ref (ad 70)), (1, .int w), (2, .int v9), (3, .int (nI k))] : List (Nat × Value))) e9_0)
            have ew9 : (rlW cA ad (gs g 6 (insC (g 17) (layR g w k) k (layL g w k))) z) = (rlW cA ad (gs g 6 (layR g w (k + 1))) z) := by first | with_reducible rfl | (first | rw [(lay_f (fun h => c_21 h.1)).2] | rw [(lay_f (fun h => h.2 c_33)).2] | rw [(lay_t c_21 c_33).2])
            have hP : va_P D vwCl (rlW cA ad (gs g 6 (layR g w (k + 1))) z) H := va_cast' hP ew9
            have hD : va_D A (rlW cA ad (gs g 6 (layR g w (k + 1))) z) := va_castD hD ew9
            exact zqJ45  (by omega) _ _ _ hP hD hS hl9
  refine lv_iconst (v := nI 0) hx hb dX5_layOutCareer_0 (by decide +kernel) ?_
  refine lv_istore_n (lv' := [(2, .int (nI 0)), (0, .ref (ad 70)), (1, .int w)]) hx hb dX5_layOutCareer_1 rfl hl (by decide) rfl (fun ls hl => ?_)
  refine lv_iconst (v := nI 0) hx hb dX5_layOutCareer_2 (by decide +kernel) ?_
  refine lv_istore_n (lv' := [(3, .int (nI 0)), (2, .int (nI 0)), (0, .ref (ad 70)), (1, .int w)]) hx hb dX5_layOutCareer_3 rfl hl (by decide) rfl (fun ls hl => ?_)
  have e9_0 : (nI 0) = (nI (layL g w 0)) := by first | with_reducible rfl | (rfl)
  have hl9 : lv_has ls 4 [(0, .ref (ad 70)), (1, .int w), (2, .int (nI (layL g w 0))), (3, .int (nI 0))] := lv_cast (l := [(0, .ref (ad 70)), (1, .int w), (2, .int (nI 0)), (3, .int (nI 0))]) (lv_sub hl [2, 3, 1, 0] rfl) (congrArg (fun v9 : Int32 => ([(0, .ref (ad 70)), (1, .int w), (2, .int v9), (3, .int (nI 0))] : List (Nat × Value))) e9_0)
  have ew9 : (rlW cA ad g z) = (rlW cA ad (gs g 6 (layR g w 0)) z) := by first | with_reducible rfl | (rfl)
  have hP : va_P D vwCl (rlW cA ad (gs g 6 (layR g w 0)) z) H := va_cast' hP ew9
  have hD : va_D A (rlW cA ad (gs g 6 (layR g w 0)) z) := va_castD hD ew9
  exact zqL4 (z 0 + 1) 0 (by omega) (by omega) _ _ _ hP hD hS hl9
abbrev rm_X5_rankAt : Room := { frames := 1, cells := 0, slots := 0, locals := 21 }
set_option maxRecDepth 100000 in
set_option maxHeartbeats 4000000 in
theorem c_X5_rankAt (l : Launch) (D : va_G) (cA : ClassId) (ad : Nat → Nat) (g : Nat → Nat → Int32) (z : Nat → Nat) (k : Nat) (hk : k < 16) : q_CI l yX5_rankAt [Cond.code yX5_rankAt cX5_rankAt 2 (some .int)] rm_X5_rankAt D cA [.ref (ad 70), .int (nI k)] (rlW cA ad g z) (rAt 8 (g 5) (rAt 16 (g 3) ((g 6) k))) (rlW cA ad g z) := by
  refine q_startI RX5 (by decide +kernel) rfl (Nat.le_of_ble_eq_true rfl) ?_
  intro p e s m below meth c A args H locs ls hx hb hr hml hown hT hlk hP hK hD hA hS hl
  have hl : lv_has ls 2 [(0, .ref (ad 70)), (1, .int (nI k))] := hl
  refine lv_aload_n hx hb dX5_rankAt_0 rfl (lv_at hl 0 rfl) ?_
  refine q_get hx hb hT hown hK hP kw_X5 0 rfl rfl 5 (by decide) kf_X5_30 rfl (v := .ref (ad 5)) rfl dX5_rankAt_1 ?_
  refine lv_aload_n hx hb dX5_rankAt_4 rfl (lv_at hl 0 rfl) ?_
  refine q_get hx hb hT hown hK hP kw_X5 0 rfl rfl 3 (by decide) kf_X5_24 rfl (v := .ref (ad 3)) rfl dX5_rankAt_5 ?_
  refine lv_aload_n hx hb dX5_rankAt_8 rfl (lv_at hl 0 rfl) ?_
  refine q_get hx hb hT hown hK hP kw_X5 0 rfl rfl 13 (by decide) kf_X5_70 rfl (v := .ref (ad 6)) rfl dX5_rankAt_9 ?_
  refine lv_iload_n hx hb dX5_rankAt_12 rfl (lv_at hl 1 rfl) ?_
  refine q_callI (As := [.int (nI k)]) (r := g 6 k) (wc := rowW cA (ad 6) (ad 36) 16 (g 6)) (w1 := rowW cA (ad 6) (ad 36) 16 (g 6)) (ws1 := rlW cA ad g z) hx hb hml hown hT hK hP hD hS hA (c_X3_atN l D cA (ad 6) (ad 36) 16 (g 6) k (by omega) (by omega)) k_X3_at kl_X5_105 (q0 := 0) rfl rfl rfl [13, 14] rfl rfl rfl rfl hl rfl rfl (Nat.le_of_ble_eq_true rfl) ⟨⟨rfl, rfl⟩, Nat.le_of_ble_eq_true rfl, Nat.le_of_ble_eq_true rfl⟩ ⟨Nat.zero_le _, Nat.zero_le _⟩ dX5_rankAt_13 (fun H locs hP hD hS => ?_)
  refine q_callI (As := [.int (g 6 k)]) (r := rAt 16 (g 3) (g 6 k)) (wc := rowW cA (ad 3) (ad 33) 16 (g 3)) (w1 := rowW cA (ad 3) (ad 33) 16 (g 3)) (ws1 := rlW cA ad g z) hx hb hml hown hT hK hP hD hS hA (c_X3_at l D cA (ad 3) (ad 33) 16 (g 3) (g 6 k) (by omega)) k_X3_at kl_X5_105 (q0 := 0) rfl rfl rfl [7, 8] rfl rfl rfl rfl hl rfl rfl (Nat.le_of_ble_eq_true rfl) ⟨⟨rfl, rfl⟩, Nat.le_of_ble_eq_true rfl, Nat.le_of_ble_eq_true rfl⟩ ⟨Nat.zero_le _, Nat.zero_le _⟩ dX5_rankAt_16 (fun H locs hP hD hS => ?_)
  refine q_callI (As := [.int (rAt 16 (g 3) (g 6 k))]) (r := rAt 8 (g 5) (rAt 16 (g 3) (g 6 k))) (wc := rowW cA (ad 5) (ad 35) 8 (g 5)) (w1 := rowW cA (ad 5) (ad 35) 8 (g 5)) (ws1 := rlW cA ad g z) hx hb hml hown hT hK hP hD hS hA (c_X3_at l D cA (ad 5) (ad 35) 8 (g 5) (rAt 16 (g 3) (g 6 k)) (by omega)) k_X3_at kl_X5_105 (q0 := 0) rfl rfl rfl [11, 12] rfl rfl rfl rfl hl rfl rfl (Nat.le_of_ble_eq_true rfl) ⟨⟨rfl, rfl⟩, Nat.le_of_ble_eq_true rfl, Nat.le_of_ble_eq_true rfl⟩ ⟨Nat.zero_le _, Nat.zero_le _⟩ dX5_rankAt_19 (fun H locs hP hD hS => ?_)
  exact q_iret hx hb hr hlk (by rfl) hP hS dX5_rankAt_22
abbrev rm_X5_reachKinOf : Room := { frames := 2, cells := 0, slots := 0, locals := 43 }
set_option maxRecDepth 100000 in
set_option maxHeartbeats 4000000 in
theorem c_X5_reachKinOf (l : Launch) (D : va_G) (cA : ClassId) (ad : Nat → Nat) (g : Nat → Nat → Int32) (z : Nat → Nat) (i : Nat) (x : Int32) (hi : i < 16) (hc : (z 0) ≤ 16) (hO : ∀ k, k < (z 0) → q_r ((g 22) k) 40) : q_CV l yX5_reachKinOf [Cond.code yX5_reachKinOf cX5_reachKinOf 5 none] rm_X5_reachKinOf D cA [.ref (ad 70), .int (nI i), .int x] (rlW cA ad g z) (rlW cA ad (gs g 7 (rkN (g 22) (g 11) (g 7) i x (z 0))) z) := by
  refine q_startV RX5 (by decide +kernel) rfl (Nat.le_of_ble_eq_true rfl) ?_
  intro p e s m below meth c A args H locs ls hx hb hr hml hown hT hlk hP hK hD hA hS hl
  have hl : lv_has ls 5 [(0, .ref (ad 70)), (1, .int (nI i)), (2, .int x)] := hl
  have zqL2 : ∀ (fu : Nat), ∀ (k : Nat), (z 0 + 1 ≤ k + fu) → (k ≤ (z 0)) → ∀ (H : Heap) (locs : List Loc) (ls : Array Slot), va_P D vwCl (rlW cA ad (gs g 7 (rkN (g 22) (g 11) (g 7) i x k)) z) H → va_D A (rlW cA ad (gs g 7 (rkN (g 22) (g 11) (g 7) i x k)) z) → va_S A s.heap H locs → lv_has ls 5 [(0, .ref (ad 70)), (1, .int (nI i)), (2, .int x), (3, .int (nI k))] → W p l e rm_X5_reachKinOf s m args below meth c H locs 0 0 (q_GV D (rlW cA ad (gs g 7 (rkN (g 22) (g 11) (g 7) i x (z 0))) z) A below args s) (F0 m 2 ls []) := by
    intro fu
    induction fu with
    | zero =>
      intro k hfu hk H locs ls hP hD hS hl
      exfalso; omega
    | succ fu ih2 =>
      intro k hfu hk H locs ls hP hD hS hl
      have zqJ55 : (k < (z 0)) → ∀ (H : Heap) (locs : List Loc) (ls : Array Slot), va_P D vwCl (rlW cA ad (gs g 7 (rkN (g 22) (g 11) (g 7) i x (k + 1))) z) H → va_D A (rlW cA ad (gs g 7 (rkN (g 22) (g 11) (g 7) i x (k + 1))) z) → va_S A s.heap H locs → lv_has ls 5 [(0, .ref (ad 70)), (1, .int (nI i)), (2, .int x), (3, .int (nI k))] → W p l e rm_X5_reachKinOf s m args below meth c H locs 0 0 (q_GV D (rlW cA ad (gs g 7 (rkN (g 22) (g 11) (g 7) i x (z 0))) z) A below args s) (F0 m 55 ls []) := by
        intro  hk9 H locs ls hP hD hS hl
        refine lv_iinc (v := nI (k + 1)) (lv' := [(3, .int (nI (k + 1))), (0, .ref (ad 70)), (1, .int (nI i)), (2, .int x)]) hx hb dX5_reachKinOf_55 hl (k := 3) rfl (q_inc1 _) (by decide) rfl (fun ls hl => ?_)
        refine lv_goto (tgt := 2) hx hb dX5_reachKinOf_58 (by decide) ?_
        exact ih2 (k + 1) (by omega) (by omega) _ _ _ hP hD hS (lv_sub hl [1, 2, 3, 0] rfl)
      refine lv_iload_n hx hb dX5_reachKinOf_2 rfl (lv_at hl 3 rfl) ?_
      refine lv_aload_n hx hb dX5_reachKinOf_3 rfl (lv_at hl 0 rfl) ?_
      refine q_get hx hb hT hown hK hP kw_X5 0 rfl rfl 15 (by decide) kf_X5_87 rfl (v := .int (nI (z 0))) rfl dX5_reachKinOf_4 ?_
      refine lv_icmp_ge (tgt := 61) hx hb dX5_reachKinOf_7 (by decide) (fun c_7 => ?_) (fun c_7 => ?_)
      · have c_7 := nI_le1 (a := z 0) (b := k) (by omega) (by omega) c_7
        exact q_vret hx hb hr hlk (va_cast' hP (by rw [show k = z 0 by omega])) hS dX5_reachKinOf_61
      · have c_7 := nI_le0 (a := z 0) (b := k) (by omega) (by omega) c_7
        refine lv_aload_n hx hb dX5_reachKinOf_10 rfl (lv_at hl 0 rfl) ?_
        refine q_get hx hb hT hown hK hP kw_X5 0 rfl rfl 11 (by decide) kf_X5_59 rfl (v := .ref (ad 72)) rfl dX5_reachKinOf_11 ?_
        refine lv_iload_n hx hb dX5_reachKinOf_14 rfl (lv_at hl 3 rfl) ?_
        refine q_callIS (As := [.int (nI k)]) (r := (g 22) k) (wc := psW cA ad (gs g 7 (rkN (g 22) (g 11) (g 7) i x k)) z) (w1 := psW cA ad (gs g 7 (rkN (g 22) (g 11) (g 7) i x k)) z) (ws1 := rlW cA ad (gs g 7 (rkN (g 22) (g 11) (g 7) i x k)) z) hx hb hml hown hT hK hP hD hS hA (c_X2_ownerOf l D cA ad (gs g 7 (rkN (g 22) (g 11) (g 7) i x k)) z k (show k < 16 by omega)) k_X2_ownerOf kl_X5_164 (q0 := 0) rfl rfl rfl (rl_a cA ad (gs g 7 (rkN (g 22) (g 11) (g 7) i x k)) z ++ yrW cA ad (gs g 7 (rkN (g 22) (g 11) (g 7) i x k)) z) (gpW cA ad (gs g 7 (rkN (g 22) (g 11) (g 7) i x k)) z) (List.append_assoc _ _ _).symm (rl_p rfl rfl rfl) ((psW_adr _ _ _ _).trans (psW_adr _ _ _ _).symm) hl rfl rfl (Nat.le_of_ble_eq_true rfl) ⟨⟨rfl, rfl⟩, Nat.le_of_ble_eq_true rfl, Nat.le_of_ble_eq_true rfl⟩ ⟨Nat.zero_le _, Nat.zero_le _⟩ dX5_reachKinOf_15 (fun H locs hP hD hS => ?_)
        refine q_top (y := nI (q_n (g 22 k))) ((hO k (by omega)).eq (by omega)) ?_
        refine lv_istore (lv' := [(4, .int (nI (q_n (g 22 k)))), (0, .ref (ad 70)), (1, .int (nI i)), (2, .int x), (3, .int (nI k))]) hx hb dX5_reachKinOf_18 hl (by decide) rfl (fun ls hl => ?_)
        refine lv_aload_n hx hb dX5_reachKinOf_20 rfl (lv_at hl 1 rfl) ?_
        refine q_get hx hb hT hown hK hP kw_X5 0 rfl rfl 9 (by decide) kf_X5_46 rfl (v := .ref (ad 63)) rfl dX5_reachKinOf_21 ?_
        refine lv_iload_n hx hb dX5_reachKinOf_24 rfl (lv_at hl 2 rfl) ?_
        refine lv_iload_n hx hb dX5_reachKinOf_25 rfl (lv_at hl 4 rfl) ?_
        refine q_callI (As := [.int (nI i), .int (nI k)]) (r := q_b (hasB (g 11 i) (nI k))) (wc := prW cA (ad 63) (ad 11) (ad 41) 16 (g 11)) (w1 := prW cA (ad 63) (ad 11) (ad 41) 16 (g 11)) (ws1 := rlW cA ad (gs g 7 (rkN (g 22) (g 11) (g 7) i x k)) z) hx hb hml hown hT hK hP hD hS hA (c_X1_hasN l D cA (ad 63) (ad 11) (ad 41) 16 (g 11) i (nI k) (by omega) (by omega)) k_X1_has kl_X5_242 (q0 := 0) rfl rfl rfl [26, 27, 28] rfl rfl rfl rfl hl rfl rfl (Nat.le_of_ble_eq_true rfl) ⟨⟨rfl, rfl⟩, Nat.le_of_ble_eq_true rfl, Nat.le_of_ble_eq_true rfl⟩ ⟨Nat.zero_le _, Nat.zero_le _⟩ dX5_reachKinOf_26 (fun H locs hP hD hS => ?_)
        refine lv_if_eq (tgt := 55) hx hb dX5_reachKinOf_29 (by decide) (fun c_29 => ?_) (fun c_29 => ?_)
        · have c_29 := q_b0e c_29
          have ew9 : (rlW cA ad (gs g 7 (rkN (g 22) (g 11) (g 7) i x k)) z) = (rlW cA ad (gs g 7 (rkN (g 22) (g 11) (g 7) i x (k + 1))) z) := by first | with_reducible rfl | (first | rw [rkN_t c_29 c_42] | rw [rkN_f (fun h => c_42 h.2)] | rw [rkN_f (fun h => Bool.false_ne_true (c_29.symm.trans h.1))])
          have hP : va_P D vwCl (rlW cA ad (gs g 7 (rkN (g 22) (g 11) (g 7) i x (k + 1))) z) H := va_cast' hP ew9
          have hD : va_D A (rlW cA ad (gs g 7 (rkN (g 22) (g 11) (g 7) i x (k + 1))) z) := va_castD hD ew9
          exact zqJ55  (by omega) _ _ _ hP hD hS (lv_sub hl [1, 2, 3, 4] rfl)
        · have c_29 := q_b0n c_29
          refine lv_aload_n hx hb dX5_reachKinOf_32 rfl (lv_at hl 1 rfl) ?_
          refine q_get hx hb hT hown hK hP kw_X5 0 rfl rfl 14 (by decide) kf_X5_73 rfl (v := .ref (ad 7)) rfl dX5_reachKinOf_33 ?_
          refine lv_iload hx hb dX5_reachKinOf_36 (lv_at hl 0 rfl) ?_
          refine q_callI (As := [.int (nI (q_n (g 22 k)))]) (r := (rkN (g 22) (g 11) (g 7) i x k) (q_n (g 22 k))) (wc := rowW cA (ad 7) (ad 37) 40 (rkN (g 22) (g 11) (g 7) i x k)) (w1 := rowW cA (ad 7) (ad 37) 40 (rkN (g 22) (g 11) (g 7) i x k)) (ws1 := rlW cA ad (gs g 7 (rkN (g 22) (g 11) (g 7) i x k)) z) hx hb hml hown hT hK hP hD hS hA (c_X3_atN l D cA (ad 7) (ad 37) 40 (rkN (g 22) (g 11) (g 7) i x k) (q_n (g 22 k)) ((hO k (by omega)).lt (by omega)) (by omega)) k_X3_at kl_X5_105 (q0 := 0) rfl rfl rfl [15, 16] rfl rfl rfl rfl hl rfl rfl (Nat.le_of_ble_eq_true rfl) ⟨⟨rfl, rfl⟩, Nat.le_of_ble_eq_true rfl, Nat.le_of_ble_eq_true rfl⟩ ⟨Nat.zero_le _, Nat.zero_le _⟩ dX5_reachKinOf_38 (fun H locs hP hD hS => ?_)
          refine lv_iconst (v := (-1)) hx hb dX5_reachKinOf_41 (by decide +kernel) ?_
          refine lv_icmp_ne (tgt := 55) hx hb dX5_reachKinOf_42 (by decide) (fun c_42 => ?_) (fun c_42 => ?_)
          · have ew9 : (rlW cA ad (gs g 7 (rkN (g 22) (g 11) (g 7) i x k)) z) = (rlW cA ad (gs g 7 (rkN (g 22) (g 11) (g 7) i x (k + 1))) z) := by first | with_reducible rfl | (first | rw [rkN_t c_29 c_42] | rw [rkN_f (fun h => c_42 h.2)] | rw [rkN_f (fun h => Bool.false_ne_true (c_29.symm.trans h.1))])
            have hP : va_P D vwCl (rlW cA ad (gs g 7 (rkN (g 22) (g 11) (g 7) i x (k + 1))) z) H := va_cast' hP ew9
            have hD : va_D A (rlW cA ad (gs g 7 (rkN (g 22) (g 11) (g 7) i x (k + 1))) z) := va_castD hD ew9
            exact zqJ55  (by omega) _ _ _ hP hD hS (lv_sub hl [1, 2, 3, 4] rfl)
          · refine lv_aload_n hx hb dX5_reachKinOf_45 rfl (lv_at hl 1 rfl) ?_
            refine q_get hx hb hT hown hK hP kw_X5 0 rfl rfl 14 (by decide) kf_X5_73 rfl (v := .ref (ad 7)) rfl dX5_reachKinOf_46 ?_
            refine lv_iload hx hb dX5_reachKinOf_49 (lv_at hl 0 rfl) ?_
            refine lv_iload_n hx hb dX5_reachKinOf_51 rfl (lv_at hl 3 rfl) ?_
            refine q_callV (As := [.int (nI (q_n (g 22 k))), .int x]) (wc := rowW cA (ad 7) (ad 37) 40 (rkN (g 22) (g 11) (g 7) i x k)) (w1 := rowW cA (ad 7) (ad 37) 40 (upd (rkN (g 22) (g 11) (g 7) i x k) (q_n (g 22 k)) x)) (ws1 := rlW cA ad (gs g 7 (upd (rkN (g 22) (g 11) (g 7) i x k) (q_n (g 22 k)) x)) z) hx hb hml hown hT hK hP hD hS hA (c_X3_putN l D cA (ad 7) (ad 37) 40 (rkN (g 22) (g 11) (g 7) i x k) (q_n (g 22 k)) x ((hO k (by omega)).lt (by omega)) (by omega)) k_X3_put kl_X5_76 (q0 := 0) rfl rfl rfl [15, 16] rfl rfl rfl rfl hl rfl rfl (Nat.le_of_ble_eq_true rfl) ⟨⟨rfl, rfl⟩, Nat.le_of_ble_eq_true rfl, Nat.le_of_ble_eq_true rfl⟩ ⟨Nat.zero_le _, Nat.zero_le _⟩ dX5_reachKinOf_52 (fun H locs hP hD hS => ?_)
            obtain ⟨nF52_7, enF52_7⟩ : ∃ y : Nat → Int32, y = upd (rkN (g 22) (g 11) (g 7) i x k) (q_n (g 22 k)) x := ⟨_, rfl⟩
            have hP : va_P D vwCl (rlW cA ad (gs g 7 nF52_7) z) H := by rw [enF52_7]; exact hP
            have hD : va_D A (rlW cA ad (gs g 7 nF52_7) z) := by rw [enF52_7]; exact hD
            rw [enF52_7] at hP hD
            have ew9 : (rlW cA ad (gs g 7 (upd (rkN (g 22) (g 11) (g 7) i x k) (q_n (g 22 k)) x)) z) = (rlW cA ad (gs g 7 (rkN (g 22) (g 11) (g 7) i x (k + 1))) z) := by first | with_reducible rfl | (first | rw [rkN_t c_29 c_42] | rw [rkN_f (fun h => c_42 h.2)] | rw [rkN_f (fun h => Bool.false_ne_true (c_29.symm.trans h.1))])
            have hP : va_P D vwCl (rlW cA ad (gs g 7 (rkN (g 22) (g 11) (g 7) i x (k + 1))) z) H := va_cast' hP ew9
            have hD : va_D A (rlW cA ad (gs g 7 (rkN (g 22) (g 11) (g 7) i x (k + 1))) z) := va_castD hD ew9
            exact zqJ55  (by omega) _ _ _ hP hD hS (lv_sub hl [1, 2, 3, 4] rfl)
  refine lv_iconst (v := nI 0) hx hb dX5_reachKinOf_0 (by decide +kernel) ?_
  refine lv_istore_n (lv' := [(3, .int (nI 0)), (0, .ref (ad 70)), (1, .int (nI i)), (2, .int x)]) hx hb dX5_reachKinOf_1 rfl hl (by decide) rfl (fun ls hl => ?_)
  have ew9 : (rlW cA ad g z) = (rlW cA ad (gs g 7 (rkN (g 22) (g 11) (g 7) i x 0)) z) := by first | with_reducible rfl | (rw [rkN_0]; rfl)
  have hP : va_P D vwCl (rlW cA ad (gs g 7 (rkN (g 22) (g 11) (g 7) i x 0)) z) H := va_cast' hP ew9
  have hD : va_D A (rlW cA ad (gs g 7 (rkN (g 22) (g 11) (g 7) i x 0)) z) := va_castD hD ew9
  exact zqL2 (z 0 + 1) 0 (by omega) (by omega) _ _ _ hP hD hS (lv_sub hl [1, 2, 3, 0] rfl)
abbrev rm_X5_stepOn : Room := { frames := 3, cells := 0, slots := 0, locals := 67 }
set_option maxRecDepth 100000 in
set_option maxHeartbeats 4000000 in
theorem c_X5_stepOn (l : Launch) (D : va_G) (cA : ClassId) (ad : Nat → Nat) (g : Nat → Nat → Int32) (z : Nat → Nat) (x : Nat) (hx9 : x < 17) (hc : (z 0) ≤ 16) (hO : ∀ k, k < (z 0) → q_r ((g 22) k) 40) : q_CV l yX5_stepOn [Cond.code yX5_stepOn cX5_stepOn 3 none] rm_X5_stepOn D cA [.ref (ad 70), .int (nI x)] (rlW cA ad g z) (rlW cA ad (gs g 7 (soN (g 22) (g 11) (g 7) (z 0) x (z 0))) z) := by
  refine q_startV RX5 (by decide +kernel) rfl (Nat.le_of_ble_eq_true rfl) ?_
  intro p e s m below meth c A args H locs ls hx hb hr hml hown hT hlk hP hK hD hA hS hl
  have hl : lv_has ls 3 [(0, .ref (ad 70)), (1, .int (nI x))] := hl
  have zqL2 : ∀ (fu : Nat), ∀ (k : Nat), (z 0 + 1 ≤ k + fu) → (k ≤ (z 0)) → ∀ (H : Heap) (locs : List Loc) (ls : Array Slot), va_P D vwCl (rlW cA ad (gs g 7 (soN (g 22) (g 11) (g 7) (z 0) x k)) z) H → va_D A (rlW cA ad (gs g 7 (soN (g 22) (g 11) (g 7) (z 0) x k)) z) → va_S A s.heap H locs → lv_has ls 3 [(0, .ref (ad 70)), (1, .int (nI x)), (2, .int (nI k))] → W p l e rm_X5_stepOn s m args below meth c H locs 0 0 (q_GV D (rlW cA ad (gs g 7 (soN (g 22) (g 11) (g 7) (z 0) x (z 0))) z) A below args s) (F0 m 2 ls []) := by
    intro fu
    induction fu with
    | zero =>
      intro k hfu hk H locs ls hP hD hS hl
      exfalso; omega
    | succ fu ih2 =>
      intro k hfu hk H locs ls hP hD hS hl
      have zqJ37 : (k < (z 0)) → ∀ (H : Heap) (locs : List Loc) (ls : Array Slot), va_P D vwCl (rlW cA ad (gs g 7 (soN (g 22) (g 11) (g 7) (z 0) x (k + 1))) z) H → va_D A (rlW cA ad (gs g 7 (soN (g 22) (g 11) (g 7) (z 0) x (k + 1))) z) → va_S A s.heap H locs → lv_has ls 3 [(0, .ref (ad 70)), (1, .int (nI x)), (2, .int (nI k))] → W p l e rm_X5_stepOn s m args below meth c H locs 0 0 (q_GV D (rlW cA ad (gs g 7 (soN (g 22) (g 11) (g 7) (z 0) x (z 0))) z) A below args s) (F0 m 37 ls []) := by
        intro  hk9 H locs ls hP hD hS hl
        refine lv_iinc (v := nI (k + 1)) (lv' := [(2, .int (nI (k + 1))), (0, .ref (ad 70)), (1, .int (nI x))]) hx hb dX5_stepOn_37 hl (k := 2) rfl (q_inc1 _) (by decide) rfl (fun ls hl => ?_)
        refine lv_goto (tgt := 2) hx hb dX5_stepOn_40 (by decide) ?_
        exact ih2 (k + 1) (by omega) (by omega) _ _ _ hP hD hS (lv_sub hl [1, 2, 0] rfl)
      refine lv_iload_n hx hb dX5_stepOn_2 rfl (lv_at hl 2 rfl) ?_
      refine lv_aload_n hx hb dX5_stepOn_3 rfl (lv_at hl 0 rfl) ?_
      refine q_get hx hb hT hown hK hP kw_X5 0 rfl rfl 15 (by decide) kf_X5_87 rfl (v := .int (nI (z 0))) rfl dX5_stepOn_4 ?_
      refine lv_icmp_ge (tgt := 43) hx hb dX5_stepOn_7 (by decide) (fun c_7 => ?_) (fun c_7 => ?_)
      · have c_7 := nI_le1 (a := z 0) (b := k) (by omega) (by omega) c_7
        exact q_vret hx hb hr hlk (va_cast' hP (by rw [show k = z 0 by omega])) hS dX5_stepOn_43
      · have c_7 := nI_le0 (a := z 0) (b := k) (by omega) (by omega) c_7
        refine lv_aload_n hx hb dX5_stepOn_10 rfl (lv_at hl 0 rfl) ?_
        refine q_get hx hb hT hown hK hP kw_X5 0 rfl rfl 14 (by decide) kf_X5_73 rfl (v := .ref (ad 7)) rfl dX5_stepOn_11 ?_
        refine lv_aload_n hx hb dX5_stepOn_14 rfl (lv_at hl 0 rfl) ?_
        refine q_get hx hb hT hown hK hP kw_X5 0 rfl rfl 11 (by decide) kf_X5_59 rfl (v := .ref (ad 72)) rfl dX5_stepOn_15 ?_
        refine lv_iload_n hx hb dX5_stepOn_18 rfl (lv_at hl 2 rfl) ?_
        refine q_callIS (As := [.int (nI k)]) (r := (g 22) k) (wc := psW cA ad (gs g 7 (soN (g 22) (g 11) (g 7) (z 0) x k)) z) (w1 := psW cA ad (gs g 7 (soN (g 22) (g 11) (g 7) (z 0) x k)) z) (ws1 := rlW cA ad (gs g 7 (soN (g 22) (g 11) (g 7) (z 0) x k)) z) hx hb hml hown hT hK hP hD hS hA (c_X2_ownerOf l D cA ad (gs g 7 (soN (g 22) (g 11) (g 7) (z 0) x k)) z k (show k < 16 by omega)) k_X2_ownerOf kl_X5_164 (q0 := 0) rfl rfl rfl (rl_a cA ad (gs g 7 (soN (g 22) (g 11) (g 7) (z 0) x k)) z ++ yrW cA ad (gs g 7 (soN (g 22) (g 11) (g 7) (z 0) x k)) z) (gpW cA ad (gs g 7 (soN (g 22) (g 11) (g 7) (z 0) x k)) z) (List.append_assoc _ _ _).symm (rl_p rfl rfl rfl) ((psW_adr _ _ _ _).trans (psW_adr _ _ _ _).symm) hl rfl rfl (Nat.le_of_ble_eq_true rfl) ⟨⟨rfl, rfl⟩, Nat.le_of_ble_eq_true rfl, Nat.le_of_ble_eq_true rfl⟩ ⟨Nat.zero_le _, Nat.zero_le _⟩ dX5_stepOn_19 (fun H locs hP hD hS => ?_)
        refine q_top (y := nI (q_n (g 22 k))) ((hO k (by omega)).eq (by omega)) ?_
        refine q_callI (As := [.int (nI (q_n (g 22 k)))]) (r := (soN (g 22) (g 11) (g 7) (z 0) x k) (q_n (g 22 k))) (wc := rowW cA (ad 7) (ad 37) 40 (soN (g 22) (g 11) (g 7) (z 0) x k)) (w1 := rowW cA (ad 7) (ad 37) 40 (soN (g 22) (g 11) (g 7) (z 0) x k)) (ws1 := rlW cA ad (gs g 7 (soN (g 22) (g 11) (g 7) (z 0) x k)) z) hx hb hml hown hT hK hP hD hS hA (c_X3_atN l D cA (ad 7) (ad 37) 40 (soN (g 22) (g 11) (g 7) (z 0) x k) (q_n (g 22 k)) ((hO k (by omega)).lt (by omega)) (by omega)) k_X3_at kl_X5_105 (q0 := 0) rfl rfl rfl [15, 16] rfl rfl rfl rfl hl rfl rfl (Nat.le_of_ble_eq_true rfl) ⟨⟨rfl, rfl⟩, Nat.le_of_ble_eq_true rfl, Nat.le_of_ble_eq_true rfl⟩ ⟨Nat.zero_le _, Nat.zero_le _⟩ dX5_stepOn_22 (fun H locs hP hD hS => ?_)
        refine lv_iload_n hx hb dX5_stepOn_25 rfl (lv_at hl 1 rfl) ?_
        refine lv_icmp_ne (tgt := 37) hx hb dX5_stepOn_26 (by decide) (fun c_26 => ?_) (fun c_26 => ?_)
        · have ew9 : (rlW cA ad (gs g 7 (soN (g 22) (g 11) (g 7) (z 0) x k)) z) = (rlW cA ad (gs g 7 (soN (g 22) (g 11) (g 7) (z 0) x (k + 1))) z) := by first | with_reducible rfl | (first | rw [soN_t c_26] | rw [soN_f c_26])
          have hP : va_P D vwCl (rlW cA ad (gs g 7 (soN (g 22) (g 11) (g 7) (z 0) x (k + 1))) z) H := va_cast' hP ew9
          have hD : va_D A (rlW cA ad (gs g 7 (soN (g 22) (g 11) (g 7) (z 0) x (k + 1))) z) := va_castD hD ew9
          exact zqJ37  (by omega) _ _ _ hP hD hS (lv_sub hl [0, 1, 2] rfl)
        · refine lv_aload_n hx hb dX5_stepOn_29 rfl (lv_at hl 0 rfl) ?_
          refine lv_iload_n hx hb dX5_stepOn_30 rfl (lv_at hl 2 rfl) ?_
          refine lv_iload_n hx hb dX5_stepOn_31 rfl (lv_at hl 1 rfl) ?_
          refine lv_iconst (v := nI 1) hx hb dX5_stepOn_32 (by decide +kernel) ?_
          refine lv_iadd hx hb dX5_stepOn_33 ?_
          refine q_top (y := nI (x + 1)) (nI_add _ _) ?_
          refine q_callVW (As := [.int (nI k), .int (nI (x + 1))]) (w1 := rlW cA ad (gs g 7 (rkN (g 22) (g 11) (soN (g 22) (g 11) (g 7) (z 0) x k) k (nI (x + 1)) (z 0))) z) hx hb hml hown hT hK hP hD hS hA (c_X5_reachKinOf l D cA ad (gs g 7 (soN (g 22) (g 11) (g 7) (z 0) x k)) z k (nI (x + 1)) (show k < 16 by omega) (show (z 0) ≤ 16 by omega) hO) k_X5_reachKinOf kl_X5_275 (q0 := 0) rfl rfl rfl ((rlW_adr _ _ _ _).trans (rlW_adr _ _ _ _).symm) hl rfl rfl (Nat.le_of_ble_eq_true rfl) ⟨⟨rfl, rfl⟩, Nat.le_of_ble_eq_true rfl, Nat.le_of_ble_eq_true rfl⟩ ⟨Nat.zero_le _, Nat.zero_le _⟩ dX5_stepOn_34 (fun H locs hP hD hS => ?_)
          obtain ⟨nF34_7, enF34_7⟩ : ∃ y : Nat → Int32, y = rkN (g 22) (g 11) (soN (g 22) (g 11) (g 7) (z 0) x k) k (nI (x + 1)) (z 0) := ⟨_, rfl⟩
          have hP : va_P D vwCl (rlW cA ad (gs g 7 nF34_7) z) H := by rw [enF34_7]; exact hP
          have hD : va_D A (rlW cA ad (gs g 7 nF34_7) z) := by rw [enF34_7]; exact hD
          rw [enF34_7] at hP hD
          have ew9 : (rlW cA ad (gs g 7 (rkN (g 22) (g 11) (soN (g 22) (g 11) (g 7) (z 0) x k) k (nI (x + 1)) (z 0))) z) = (rlW cA ad (gs g 7 (soN (g 22) (g 11) (g 7) (z 0) x (k + 1))) z) := by first | with_reducible rfl | (first | rw [soN_t c_26] | rw [soN_f c_26])
          have hP : va_P D vwCl (rlW cA ad (gs g 7 (soN (g 22) (g 11) (g 7) (z 0) x (k + 1))) z) H := va_cast' hP ew9
          have hD : va_D A (rlW cA ad (gs g 7 (soN (g 22) (g 11) (g 7) (z 0) x (k + 1))) z) := va_castD hD ew9
          exact zqJ37  (by omega) _ _ _ hP hD hS (lv_sub hl [0, 1, 2] rfl)
  refine lv_iconst (v := nI 0) hx hb dX5_stepOn_0 (by decide +kernel) ?_
  refine lv_istore_n (lv' := [(2, .int (nI 0)), (0, .ref (ad 70)), (1, .int (nI x))]) hx hb dX5_stepOn_1 rfl hl (by decide) rfl (fun ls hl => ?_)
  have ew9 : (rlW cA ad g z) = (rlW cA ad (gs g 7 (soN (g 22) (g 11) (g 7) (z 0) x 0)) z) := by first | with_reducible rfl | (rw [soN_0]; rfl)
  have hP : va_P D vwCl (rlW cA ad (gs g 7 (soN (g 22) (g 11) (g 7) (z 0) x 0)) z) H := va_cast' hP ew9
  have hD : va_D A (rlW cA ad (gs g 7 (soN (g 22) (g 11) (g 7) (z 0) x 0)) z) := va_castD hD ew9
  exact zqL2 (z 0 + 1) 0 (by omega) (by omega) _ _ _ hP hD hS (lv_sub hl [1, 2, 0] rfl)
abbrev rm_X5_stepsBetween : Room := { frames := 4, cells := 0, slots := 0, locals := 89 }
set_option maxRecDepth 100000 in
set_option maxHeartbeats 4000000 in
theorem c_X5_stepsBetween (l : Launch) (D : va_G) (cA : ClassId) (ad : Nat → Nat) (g : Nat → Nat → Int32) (z : Nat → Nat) (a : Nat) (b : Nat) (ha : a < 40) (hb9 : b < 40) (hc : (z 0) ≤ 16) (hO : ∀ k, k < (z 0) → q_r ((g 22) k) 40) : q_CI l yX5_stepsBetween [Cond.code yX5_stepsBetween cX5_stepsBetween 4 (some .int)] rm_X5_stepsBetween D cA [.ref (ad 70), .int (nI a), .int (nI b)] (rlW cA ad g z) (sbN (g 22) (g 11) (upd (fun _ => (-1)) a (nI 0)) (z 0) b (z 0) b) (rlW cA ad (gs g 7 (sbN (g 22) (g 11) (upd (fun _ => (-1)) a (nI 0)) (z 0) b (z 0))) z) := by
  refine q_startI RX5 (by decide +kernel) rfl (Nat.le_of_ble_eq_true rfl) ?_
  intro p e s m below meth c A args H locs ls hx hb hr hml hown hT hlk hP hK hD hA hS hl
  have hl : lv_has ls 4 [(0, .ref (ad 70)), (1, .int (nI a)), (2, .int (nI b))] := hl
  have zqL19 : ∀ (fu : Nat), ∀ (t : Nat), (z 0 + 1 ≤ t + fu) → (t ≤ (z 0)) → ∀ (H : Heap) (locs : List Loc) (ls : Array Slot), va_P D vwCl (rlW cA ad (gs g 7 (sbN (g 22) (g 11) (upd (fun _ => (-1)) a (nI 0)) (z 0) b t)) z) H → va_D A (rlW cA ad (gs g 7 (sbN (g 22) (g 11) (upd (fun _ => (-1)) a (nI 0)) (z 0) b t)) z) → va_S A s.heap H locs → lv_has ls 4 [(0, .ref (ad 70)), (1, .int (nI a)), (2, .int (nI b)), (3, .int (nI t))] → W p l e rm_X5_stepsBetween s m args below meth c H locs 0 0 (q_GI D (sbN (g 22) (g 11) (upd (fun _ => (-1)) a (nI 0)) (z 0) b (z 0) b) (rlW cA ad (gs g 7 (sbN (g 22) (g 11) (upd (fun _ => (-1)) a (nI 0)) (z 0) b (z 0))) z) A below args s) (F0 m 19 ls []) := by
    intro fu
    induction fu with
    | zero =>
      intro t hfu ht9 H locs ls hP hD hS hl
      exfalso; omega
    | succ fu ih19 =>
      intro t hfu ht9 H locs ls hP hD hS hl
      have zqJ50 : (sbN (g 22) (g 11) (upd (fun _ => (-1)) a (nI 0)) (z 0) b t = sbN (g 22) (g 11) (upd (fun _ => (-1)) a (nI 0)) (z 0) b (z 0)) → ∀ (H : Heap) (locs : List Loc) (ls : Array Slot), va_P D vwCl (rlW cA ad (gs g 7 (sbN (g 22) (g 11) (upd (fun _ => (-1)) a (nI 0)) (z 0) b t)) z) H → va_D A (rlW cA ad (gs g 7 (sbN (g 22) (g 11) (upd (fun _ => (-1)) a (nI 0)) (z 0) b t)) z) → va_S A s.heap H locs → lv_has ls 4 [(0, .ref (ad 70)), (1, .int (nI a)), (2, .int (nI b)), (3, .int (nI t))] → W p l e rm_X5_stepsBetween s m args below meth c H locs 0 0 (q_GI D (sbN (g 22) (g 11) (upd (fun _ => (-1)) a (nI 0)) (z 0) b (z 0) b) (rlW cA ad (gs g 7 (sbN (g 22) (g 11) (upd (fun _ => (-1)) a (nI 0)) (z 0) b (z 0))) z) A below args s) (F0 m 50 ls []) := by
        intro  he9 H locs ls hP hD hS hl
        refine lv_aload_n hx hb dX5_stepsBetween_50 rfl (lv_at hl 0 rfl) ?_
        refine q_get hx hb hT hown hK hP kw_X5 0 rfl rfl 14 (by decide) kf_X5_73 rfl (v := .ref (ad 7)) rfl dX5_stepsBetween_51 ?_
        refine lv_iload_n hx hb dX5_stepsBetween_54 rfl (lv_at hl 2 rfl) ?_
        refine q_callI (As := [.int (nI b)]) (r := (sbN (g 22) (g 11) (upd (fun _ => (-1)) a (nI 0)) (z 0) b t) b) (wc := rowW cA (ad 7) (ad 37) 40 (sbN (g 22) (g 11) (upd (fun _ => (-1)) a (nI 0)) (z 0) b t)) (w1 := rowW cA (ad 7) (ad 37) 40 (sbN (g 22) (g 11) (upd (fun _ => (-1)) a (nI 0)) (z 0) b t)) (ws1 := rlW cA ad (gs g 7 (sbN (g 22) (g 11) (upd (fun _ => (-1)) a (nI 0)) (z 0) b t)) z) hx hb hml hown hT hK hP hD hS hA (c_X3_atN l D cA (ad 7) (ad 37) 40 (sbN (g 22) (g 11) (upd (fun _ => (-1)) a (nI 0)) (z 0) b t) b (by omega) (by omega)) k_X3_at kl_X5_105 (q0 := 0) rfl rfl rfl [15, 16] rfl rfl rfl rfl hl rfl rfl (Nat.le_of_ble_eq_true rfl) ⟨⟨rfl, rfl⟩, Nat.le_of_ble_eq_true rfl, Nat.le_of_ble_eq_true rfl⟩ ⟨Nat.zero_le _, Nat.zero_le _⟩ dX5_stepsBetween_55 (fun H locs hP hD hS => ?_)
        exact q_iret hx hb hr hlk (by rw [he9]) (va_cast' hP (by rw [he9])) hS dX5_stepsBetween_58
      refine lv_iload_n hx hb dX5_stepsBetween_19 rfl (lv_at hl 3 rfl) ?_
      refine lv_aload_n hx hb dX5_stepsBetween_20 rfl (lv_at hl 0 rfl) ?_
      refine q_get hx hb hT hown hK hP kw_X5 0 rfl rfl 15 (by decide) kf_X5_87 rfl (v := .int (nI (z 0))) rfl dX5_stepsBetween_21 ?_
      refine lv_icmp_ge (tgt := 50) hx hb dX5_stepsBetween_24 (by decide) (fun c_24 => ?_) (fun c_24 => ?_)
      · have c_24 := nI_le1 (a := z 0) (b := t) (by omega) (by omega) c_24
        exact zqJ50  (by first | rw [show t = z 0 by omega] | exact sbN_end (by omega) c_36) _ _ _ hP hD hS (lv_sub hl [0, 1, 2, 3] rfl)
      · have c_24 := nI_le0 (a := z 0) (b := t) (by omega) (by omega) c_24
        refine lv_aload_n hx hb dX5_stepsBetween_27 rfl (lv_at hl 0 rfl) ?_
        refine q_get hx hb hT hown hK hP kw_X5 0 rfl rfl 14 (by decide) kf_X5_73 rfl (v := .ref (ad 7)) rfl dX5_stepsBetween_28 ?_
        refine lv_iload_n hx hb dX5_stepsBetween_31 rfl (lv_at hl 2 rfl) ?_
        refine q_callI (As := [.int (nI b)]) (r := (sbN (g 22) (g 11) (upd (fun _ => (-1)) a (nI 0)) (z 0) b t) b) (wc := rowW cA (ad 7) (ad 37) 40 (sbN (g 22) (g 11) (upd (fun _ => (-1)) a (nI 0)) (z 0) b t)) (w1 := rowW cA (ad 7) (ad 37) 40 (sbN (g 22) (g 11) (upd (fun _ => (-1)) a (nI 0)) (z 0) b t)) (ws1 := rlW cA ad (gs g 7 (sbN (g 22) (g 11) (upd (fun _ => (-1)) a (nI 0)) (z 0) b t)) z) hx hb hml hown hT hK hP hD hS hA (c_X3_atN l D cA (ad 7) (ad 37) 40 (sbN (g 22) (g 11) (upd (fun _ => (-1)) a (nI 0)) (z 0) b t) b (by omega) (by omega)) k_X3_at kl_X5_105 (q0 := 0) rfl rfl rfl [15, 16] rfl rfl rfl rfl hl rfl rfl (Nat.le_of_ble_eq_true rfl) ⟨⟨rfl, rfl⟩, Nat.le_of_ble_eq_true rfl, Nat.le_of_ble_eq_true rfl⟩ ⟨Nat.zero_le _, Nat.zero_le _⟩ dX5_stepsBetween_32 (fun H locs hP hD hS => ?_)
        refine lv_iconst (v := (-1)) hx hb dX5_stepsBetween_35 (by decide +kernel) ?_
        refine lv_icmp_ne (tgt := 50) hx hb dX5_stepsBetween_36 (by decide) (fun c_36 => ?_) (fun c_36 => ?_)
        · exact zqJ50  (by first | rw [show t = z 0 by omega] | exact sbN_end (by omega) c_36) _ _ _ hP hD hS (lv_sub hl [0, 1, 2, 3] rfl)
        · refine lv_aload_n hx hb dX5_stepsBetween_39 rfl (lv_at hl 0 rfl) ?_
          refine lv_iload_n hx hb dX5_stepsBetween_40 rfl (lv_at hl 3 rfl) ?_
          refine q_callVW (As := [.int (nI t)]) (w1 := rlW cA ad (gs g 7 (soN (g 22) (g 11) (sbN (g 22) (g 11) (upd (fun _ => (-1)) a (nI 0)) (z 0) b t) (z 0) t (z 0))) z) hx hb hml hown hT hK hP hD hS hA (c_X5_stepOn l D cA ad (gs g 7 (sbN (g 22) (g 11) (upd (fun _ => (-1)) a (nI 0)) (z 0) b t)) z t (show t < 17 by omega) (show (z 0) ≤ 16 by omega) hO) k_X5_stepOn kl_X5_272 (q0 := 0) rfl rfl rfl ((rlW_adr _ _ _ _).trans (rlW_adr _ _ _ _).symm) hl rfl rfl (Nat.le_of_ble_eq_true rfl) ⟨⟨rfl, rfl⟩, Nat.le_of_ble_eq_true rfl, Nat.le_of_ble_eq_true rfl⟩ ⟨Nat.zero_le _, Nat.zero_le _⟩ dX5_stepsBetween_41 (fun H locs hP hD hS => ?_)
          obtain ⟨nF41_7, enF41_7⟩ : ∃ y : Nat → Int32, y = soN (g 22) (g 11) (sbN (g 22) (g 11) (upd (fun _ => (-1)) a (nI 0)) (z 0) b t) (z 0) t (z 0) := ⟨_, rfl⟩
          have hP : va_P D vwCl (rlW cA ad (gs g 7 nF41_7) z) H := by rw [enF41_7]; exact hP
          have hD : va_D A (rlW cA ad (gs g 7 nF41_7) z) := by rw [enF41_7]; exact hD
          refine lv_iinc (v := nI (t + 1)) (lv' := [(3, .int (nI (t + 1))), (0, .ref (ad 70)), (1, .int (nI a)), (2, .int (nI b))]) hx hb dX5_stepsBetween_44 hl (k := 3) rfl (q_inc1 _) (by decide) rfl (fun ls hl => ?_)
          refine lv_goto (tgt := 19) hx hb dX5_stepsBetween_47 (by decide) ?_
          rw [enF41_7] at hP hD
          have ew9 : (rlW cA ad (gs g 7 (soN (g 22) (g 11) (sbN (g 22) (g 11) (upd (fun _ => (-1)) a (nI 0)) (z 0) b t) (z 0) t (z 0))) z) = (rlW cA ad (gs g 7 (sbN (g 22) (g 11) (upd (fun _ => (-1)) a (nI 0)) (z 0) b (t + 1))) z) := by first | with_reducible rfl | (rw [sbN_t c_36])
          have hP : va_P D vwCl (rlW cA ad (gs g 7 (sbN (g 22) (g 11) (upd (fun _ => (-1)) a (nI 0)) (z 0) b (t + 1))) z) H := va_cast' hP ew9
          have hD : va_D A (rlW cA ad (gs g 7 (sbN (g 22) (g 11) (upd (fun _ => (-1)) a (nI 0)) (z 0) b (t + 1))) z) := va_castD hD ew9
          exact ih19 (t + 1) (by omega) (by omega) _ _ _ hP hD hS (lv_sub hl [1, 2, 3, 0] rfl)
  refine lv_aload_n hx hb dX5_stepsBetween_0 rfl (lv_at hl 0 rfl) ?_
  refine q_get hx hb hT hown hK hP kw_X5 0 rfl rfl 14 (by decide) kf_X5_73 rfl (v := .ref (ad 7)) rfl dX5_stepsBetween_1 ?_
  refine lv_iconst (v := (-1)) hx hb dX5_stepsBetween_4 (by decide +kernel) ?_
  refine q_callV (As := [.int (-1)]) (wc := rowW cA (ad 7) (ad 37) 40 (g 7)) (w1 := rowW cA (ad 7) (ad 37) 40 (fun _ => (-1))) (ws1 := rlW cA ad (gs g 7 (fun _ => (-1))) z) hx hb hml hown hT hK hP hD hS hA (c_X3_fill l D cA (ad 7) (ad 37) 40 (g 7) (-1) (by omega)) k_X3_fill kl_X5_269 (q0 := 0) rfl rfl rfl [15, 16] rfl rfl rfl rfl hl rfl rfl (Nat.le_of_ble_eq_true rfl) ⟨⟨rfl, rfl⟩, Nat.le_of_ble_eq_true rfl, Nat.le_of_ble_eq_true rfl⟩ ⟨Nat.zero_le _, Nat.zero_le _⟩ dX5_stepsBetween_5 (fun H locs hP hD hS => ?_)
  obtain ⟨nF5_7, enF5_7⟩ : ∃ y : Nat → Int32, y = (fun _ => (-1)) := ⟨_, rfl⟩
  have hP : va_P D vwCl (rlW cA ad (gs g 7 nF5_7) z) H := by rw [enF5_7]; exact hP
  have hD : va_D A (rlW cA ad (gs g 7 nF5_7) z) := by rw [enF5_7]; exact hD
  refine lv_aload_n hx hb dX5_stepsBetween_8 rfl (lv_at hl 0 rfl) ?_
  refine q_get hx hb hT hown hK hP kw_X5 0 rfl rfl 14 (by decide) kf_X5_73 rfl (v := .ref (ad 7)) rfl dX5_stepsBetween_9 ?_
  refine lv_iload_n hx hb dX5_stepsBetween_12 rfl (lv_at hl 1 rfl) ?_
  refine lv_iconst (v := nI 0) hx hb dX5_stepsBetween_13 (by decide +kernel) ?_
  refine q_callV (As := [.int (nI a), .int (nI 0)]) (wc := rowW cA (ad 7) (ad 37) 40 nF5_7) (w1 := rowW cA (ad 7) (ad 37) 40 (upd nF5_7 a (nI 0))) (ws1 := rlW cA ad (gs g 7 (upd nF5_7 a (nI 0))) z) hx hb hml hown hT hK hP hD hS hA (c_X3_putN l D cA (ad 7) (ad 37) 40 nF5_7 a (nI 0) (by omega) (by omega)) k_X3_put kl_X5_76 (q0 := 0) rfl rfl rfl [15, 16] rfl rfl rfl rfl hl rfl rfl (Nat.le_of_ble_eq_true rfl) ⟨⟨rfl, rfl⟩, Nat.le_of_ble_eq_true rfl, Nat.le_of_ble_eq_true rfl⟩ ⟨Nat.zero_le _, Nat.zero_le _⟩ dX5_stepsBetween_14 (fun H locs hP hD hS => ?_)
  obtain ⟨nF14_7, enF14_7⟩ : ∃ y : Nat → Int32, y = upd nF5_7 a (nI 0) := ⟨_, rfl⟩
  have hP : va_P D vwCl (rlW cA ad (gs g 7 nF14_7) z) H := by rw [enF14_7]; exact hP
  have hD : va_D A (rlW cA ad (gs g 7 nF14_7) z) := by rw [enF14_7]; exact hD
  refine lv_iconst (v := nI 0) hx hb dX5_stepsBetween_17 (by decide +kernel) ?_
  refine lv_istore_n (lv' := [(3, .int (nI 0)), (0, .ref (ad 70)), (1, .int (nI a)), (2, .int (nI b))]) hx hb dX5_stepsBetween_18 rfl hl (by decide) rfl (fun ls hl => ?_)
  rw [enF14_7] at hP hD
  rw [enF5_7] at hP hD
  have ew9 : (rlW cA ad (gs g 7 (upd (fun _ => (-1)) a (nI 0))) z) = (rlW cA ad (gs g 7 (sbN (g 22) (g 11) (upd (fun _ => (-1)) a (nI 0)) (z 0) b 0)) z) := by first | with_reducible rfl | (rw [sbN_0])
  have hP : va_P D vwCl (rlW cA ad (gs g 7 (sbN (g 22) (g 11) (upd (fun _ => (-1)) a (nI 0)) (z 0) b 0)) z) H := va_cast' hP ew9
  have hD : va_D A (rlW cA ad (gs g 7 (sbN (g 22) (g 11) (upd (fun _ => (-1)) a (nI 0)) (z 0) b 0)) z) := va_castD hD ew9
  exact zqL19 (z 0 + 1) 0 (by omega) (by omega) _ _ _ hP hD hS (lv_sub hl [1, 2, 3, 0] rfl)
abbrev rm_X5_layOutPairs : Room := { frames := 4, cells := 0, slots := 0, locals := 88 }
set_option maxRecDepth 100000 in
set_option maxHeartbeats 4000000 in
theorem c_X5_layOutPairs (l : Launch) (D : va_G) (cA : ClassId) (ad : Nat → Nat) (g : Nat → Nat → Int32) (z : Nat → Nat) (w : Int32) (hc : (z 0) ≤ 16) (hbc : bitC w (z 0) ≤ 6) : q_CV l yX5_layOutPairs [Cond.code yX5_layOutPairs cX5_layOutPairs 5 none] rm_X5_layOutPairs D cA [.ref (ad 70), .int w] (rlW cA ad g z) (rlW cA ad (gs (gs g 24 (lopM w (g 24) (z 0))) 25 (lpO (wopM g (lopM w (g 24) (z 0))) (g 25) (bitC w (z 0)) (bitC w (z 0)))) (zs z 3 (bitC w (z 0)))) := by
  refine q_startV RX5 (by decide +kernel) rfl (Nat.le_of_ble_eq_true rfl) ?_
  intro p e s m below meth c A args H locs ls hx hb hr hml hown hT hlk hP hK hD hA hS hl
  have hl : lv_has ls 5 [(0, .ref (ad 70)), (1, .int w)] := hl
  have zqL9 : ∀ (fu : Nat), ∀ (k : Nat), (z 0 + 1 ≤ k + fu) → (k ≤ (z 0)) → ∀ (H : Heap) (locs : List Loc) (ls : Array Slot), va_P D vwCl (rlW cA ad (gs g 24 (lopM w (g 24) k)) (zs z 3 (bitC w k))) H → va_D A (rlW cA ad (gs g 24 (lopM w (g 24) k)) (zs z 3 (bitC w k))) → va_S A s.heap H locs → lv_has ls 5 [(0, .ref (ad 70)), (1, .int w), (2, .int (nI k))] → W p l e rm_X5_layOutPairs s m args below meth c H locs 0 0 (q_GV D (rlW cA ad (gs (gs g 24 (lopM w (g 24) (z 0))) 25 (lpO (wopM g (lopM w (g 24) (z 0))) (g 25) (bitC w (z 0)) (bitC w (z 0)))) (zs z 3 (bitC w (z 0)))) A below args s) (F0 m 9 ls []) := by
    intro fu
    induction fu with
    | zero =>
      intro k hfu hk H locs ls hP hD hS hl
      exfalso; omega
    | succ fu ih9 =>
      intro k hfu hk H locs ls hP hD hS hl
      have zqL41 : ∀ (fu : Nat), ∀ (i : Nat), (bitC w (z 0) + 1 ≤ i + fu) → (i ≤ bitC w (z 0)) → ∀ (H : Heap) (locs : List Loc) (ls : Array Slot), va_P D vwCl (rlW cA ad (gs (gs g 24 (lopM w (g 24) (z 0))) 25 (lpO (wopM g (lopM w (g 24) (z 0))) (g 25) (bitC w (z 0)) i)) (zs z 3 (bitC w (z 0)))) H → va_D A (rlW cA ad (gs (gs g 24 (lopM w (g 24) (z 0))) 25 (lpO (wopM g (lopM w (g 24) (z 0))) (g 25) (bitC w (z 0)) i)) (zs z 3 (bitC w (z 0)))) → va_S A s.heap H locs → lv_has ls 5 [(0, .ref (ad 70)), (1, .int w), (2, .int (nI i))] → W p l e rm_X5_layOutPairs s m args below meth c H locs 0 0 (q_GV D (rlW cA ad (gs (gs g 24 (lopM w (g 24) (z 0))) 25 (lpO (wopM g (lopM w (g 24) (z 0))) (g 25) (bitC w (z 0)) (bitC w (z 0)))) (zs z 3 (bitC w (z 0)))) A below args s) (F0 m 41 ls []) := by
        intro fu
        induction fu with
        | zero =>
          intro i hfu hi9 H locs ls hP hD hS hl
          exfalso; omega
        | succ fu ih41 =>
          intro i hfu hi9 H locs ls hP hD hS hl
          have zqL56 : ∀ (fu : Nat), ∀ (j : Nat), (bitC w (z 0) + 1 ≤ j + fu) → (j ≤ bitC w (z 0)) → (i < j) → (i < bitC w (z 0)) → ∀ (H : Heap) (locs : List Loc) (ls : Array Slot), va_P D vwCl (rlW cA ad (gs (gs g 24 (lopM w (g 24) (z 0))) 25 (lpJ (wopM g (lopM w (g 24) (z 0))) (lpO (wopM g (lopM w (g 24) (z 0))) (g 25) (bitC w (z 0)) i) i j)) (zs z 3 (bitC w (z 0)))) H → va_D A (rlW cA ad (gs (gs g 24 (lopM w (g 24) (z 0))) 25 (lpJ (wopM g (lopM w (g 24) (z 0))) (lpO (wopM g (lopM w (g 24) (z 0))) (g 25) (bitC w (z 0)) i) i j)) (zs z 3 (bitC w (z 0)))) → va_S A s.heap H locs → lv_has ls 5 [(0, .ref (ad 70)), (1, .int w), (2, .int (nI i)), (3, .int (nI j))] → W p l e rm_X5_layOutPairs s m args below meth c H locs 0 0 (q_GV D (rlW cA ad (gs (gs g 24 (lopM w (g 24) (z 0))) 25 (lpO (wopM g (lopM w (g 24) (z 0))) (g 25) (bitC w (z 0)) (bitC w (z 0)))) (zs z 3 (bitC w (z 0)))) A below args s) (F0 m 56 ls []) := by
            intro fu
            induction fu with
            | zero =>
              intro j hfu hj9 hij hi8 H locs ls hP hD hS hl
              exfalso; omega
            | succ fu ih56 =>
              intro j hfu hj9 hij hi8 H locs ls hP hD hS hl
              refine lv_iload_n hx hb dX5_layOutPairs_56 rfl (lv_at hl 3 rfl) ?_
              refine lv_aload_n hx hb dX5_layOutPairs_57 rfl (lv_at hl 0 rfl) ?_
              refine q_get hx hb hT hown hK hP kw_X5 0 rfl rfl 12 (by decide) kf_X5_66 rfl (v := .ref (ad 73)) rfl dX5_layOutPairs_58 ?_
              refine q_callIS (As := []) (r := nI (bitC w (z 0))) (wc := gpW cA ad (gs (gs g 24 (lopM w (g 24) (z 0))) 25 (lpJ (wopM g (lopM w (g 24) (z 0))) (lpO (wopM g (lopM w (g 24) (z 0))) (g 25) (bitC w (z 0)) i) i j)) (zs z 3 (bitC w (z 0)))) (w1 := gpW cA ad (gs (gs g 24 (lopM w (g 24) (z 0))) 25 (lpJ (wopM g (lopM w (g 24) (z 0))) (lpO (wopM g (lopM w (g 24) (z 0))) (g 25) (bitC w (z 0)) i) i j)) (zs z 3 (bitC w (z 0)))) (ws1 := rlW cA ad (gs (gs g 24 (lopM w (g 24) (z 0))) 25 (lpJ (wopM g (lopM w (g 24) (z 0))) (lpO (wopM g (lopM w (g 24) (z 0))) (g 25) (bitC w (z 0)) i) i j)) (zs z 3 (bitC w (z 0)))) hx hb hml hown hT hK hP hD hS hA (c_X0_count l D cA ad (gs (gs g 24 (lopM w (g 24) (z 0))) 25 (lpJ (wopM g (lopM w (g 24) (z 0))) (lpO (wopM g (lopM w (g 24) (z 0))) (g 25) (bitC w (z 0)) i) i j)) (zs z 3 (bitC w (z 0)))) k_X0_count kl_X5_284 (q0 := 0) rfl rfl rfl ((rl_a cA ad (gs (gs g 24 (lopM w (g 24) (z 0))) 25 (lpJ (wopM g (lopM w (g 24) (z 0))) (lpO (wopM g (lopM w (g 24) (z 0))) (g 25) (bitC w (z 0)) i) i j)) (zs z 3 (bitC w (z 0))) ++ yrW cA ad (gs (gs g 24 (lopM w (g 24) (z 0))) 25 (lpJ (wopM g (lopM w (g 24) (z 0))) (lpO (wopM g (lopM w (g 24) (z 0))) (g 25) (bitC w (z 0)) i) i j)) (zs z 3 (bitC w (z 0)))) ++ psW cA ad (gs (gs g 24 (lopM w (g 24) (z 0))) 25 (lpJ (wopM g (lopM w (g 24) (z 0))) (lpO (wopM g (lopM w (g 24) (z 0))) (g 25) (bitC w (z 0)) i) i j)) (zs z 3 (bitC w (z 0)))) [] rl_g0 (rl_g rfl rfl rfl) ((gpW_adr _ _ _ _).trans (gpW_adr _ _ _ _).symm) hl rfl rfl (Nat.le_of_ble_eq_true rfl) ⟨⟨rfl, rfl⟩, Nat.le_of_ble_eq_true rfl, Nat.le_of_ble_eq_true rfl⟩ ⟨Nat.zero_le _, Nat.zero_le _⟩ dX5_layOutPairs_61 (fun H locs hP hD hS => ?_)
              refine lv_icmp_ge (tgt := 106) hx hb dX5_layOutPairs_64 (by decide) (fun c_64 => ?_) (fun c_64 => ?_)
              · have c_64 := nI_le1 (a := (bitC w (z 0))) (b := j) (by omega) (by omega) c_64
                refine lv_iinc (v := nI (i + 1)) (lv' := [(2, .int (nI (i + 1))), (0, .ref (ad 70)), (1, .int w), (3, .int (nI j))]) hx hb dX5_layOutPairs_106 hl (k := 2) rfl (q_inc1 _) (by decide) rfl (fun ls hl => ?_)
                refine lv_goto (tgt := 41) hx hb dX5_layOutPairs_109 (by decide) ?_
                have ew9 : (rlW cA ad (gs (gs g 24 (lopM w (g 24) (z 0))) 25 (lpJ (wopM g (lopM w (g 24) (z 0))) (lpO (wopM g (lopM w (g 24) (z 0))) (g 25) (bitC w (z 0)) i) i j)) (zs z 3 (bitC w (z 0)))) = (rlW cA ad (gs (gs g 24 (lopM w (g 24) (z 0))) 25 (lpO (wopM g (lopM w (g 24) (z 0))) (g 25) (bitC w (z 0)) (i + 1))) (zs z 3 (bitC w (z 0)))) := by first | with_reducible rfl | (rw [show j = bitC w (z 0) by omega, lpO_s])
                have hP : va_P D vwCl (rlW cA ad (gs (gs g 24 (lopM w (g 24) (z 0))) 25 (lpO (wopM g (lopM w (g 24) (z 0))) (g 25) (bitC w (z 0)) (i + 1))) (zs z 3 (bitC w (z 0)))) H := va_cast' hP ew9
                have hD : va_D A (rlW cA ad (gs (gs g 24 (lopM w (g 24) (z 0))) 25 (lpO (wopM g (lopM w (g 24) (z 0))) (g 25) (bitC w (z 0)) (i + 1))) (zs z 3 (bitC w (z 0)))) := va_castD hD ew9
                exact ih41 (i + 1) (by omega) (by omega) _ _ _ hP hD hS (lv_sub hl [1, 2, 0] rfl)
              · have c_64 := nI_le0 (a := (bitC w (z 0))) (b := j) (by omega) (by omega) c_64
                refine lv_aload_n hx hb dX5_layOutPairs_67 rfl (lv_at hl 0 rfl) ?_
                refine lv_aload_n hx hb dX5_layOutPairs_68 rfl (lv_at hl 0 rfl) ?_
                refine q_get hx hb hT hown hK hP kw_X5 0 rfl rfl 12 (by decide) kf_X5_66 rfl (v := .ref (ad 73)) rfl dX5_layOutPairs_69 ?_
                refine lv_iload_n hx hb dX5_layOutPairs_72 rfl (lv_at hl 2 rfl) ?_
                refine q_callIS (As := [.int (nI i)]) (r := (lopM w (g 24) (z 0)) i) (wc := gpW cA ad (gs (gs g 24 (lopM w (g 24) (z 0))) 25 (lpJ (wopM g (lopM w (g 24) (z 0))) (lpO (wopM g (lopM w (g 24) (z 0))) (g 25) (bitC w (z 0)) i) i j)) (zs z 3 (bitC w (z 0)))) (w1 := gpW cA ad (gs (gs g 24 (lopM w (g 24) (z 0))) 25 (lpJ (wopM g (lopM w (g 24) (z 0))) (lpO (wopM g (lopM w (g 24) (z 0))) (g 25) (bitC w (z 0)) i) i j)) (zs z 3 (bitC w (z 0)))) (ws1 := rlW cA ad (gs (gs g 24 (lopM w (g 24) (z 0))) 25 (lpJ (wopM g (lopM w (g 24) (z 0))) (lpO (wopM g (lopM w (g 24) (z 0))) (g 25) (bitC w (z 0)) i) i j)) (zs z 3 (bitC w (z 0)))) hx hb hml hown hT hK hP hD hS hA (c_X0_mentionAt l D cA ad (gs (gs g 24 (lopM w (g 24) (z 0))) 25 (lpJ (wopM g (lopM w (g 24) (z 0))) (lpO (wopM g (lopM w (g 24) (z 0))) (g 25) (bitC w (z 0)) i) i j)) (zs z 3 (bitC w (z 0))) i (show i < 6 by omega)) k_X0_mentionAt kl_X5_287 (q0 := 0) rfl rfl rfl ((rl_a cA ad (gs (gs g 24 (lopM w (g 24) (z 0))) 25 (lpJ (wopM g (lopM w (g 24) (z 0))) (lpO (wopM g (lopM w (g 24) (z 0))) (g 25) (bitC w (z 0)) i) i j)) (zs z 3 (bitC w (z 0))) ++ yrW cA ad (gs (gs g 24 (lopM w (g 24) (z 0))) 25 (lpJ (wopM g (lopM w (g 24) (z 0))) (lpO (wopM g (lopM w (g 24) (z 0))) (g 25) (bitC w (z 0)) i) i j)) (zs z 3 (bitC w (z 0)))) ++ psW cA ad (gs (gs g 24 (lopM w (g 24) (z 0))) 25 (lpJ (wopM g (lopM w (g 24) (z 0))) (lpO (wopM g (lopM w (g 24) (z 0))) (g 25) (bitC w (z 0)) i) i j)) (zs z 3 (bitC w (z 0)))) [] rl_g0 (rl_g rfl rfl rfl) ((gpW_adr _ _ _ _).trans (gpW_adr _ _ _ _).symm) hl rfl rfl (Nat.le_of_ble_eq_true rfl) ⟨⟨rfl, rfl⟩, Nat.le_of_ble_eq_true rfl, Nat.le_of_ble_eq_true rfl⟩ ⟨Nat.zero_le _, Nat.zero_le _⟩ dX5_layOutPairs_73 (fun H locs hP hD hS => ?_)
                refine q_top (y := nI (q_n (lopM w (g 24) (z 0) i))) ((lopM_r w (g 24) (z 0) (by omega) i (by omega)).eq (by omega)) ?_
                refine lv_aload_n hx hb dX5_layOutPairs_76 rfl (lv_at hl 0 rfl) ?_
                refine q_get hx hb hT hown hK hP kw_X5 0 rfl rfl 12 (by decide) kf_X5_66 rfl (v := .ref (ad 73)) rfl dX5_layOutPairs_77 ?_
                refine lv_iload_n hx hb dX5_layOutPairs_80 rfl (lv_at hl 3 rfl) ?_
                refine q_callIS (As := [.int (nI j)]) (r := (lopM w (g 24) (z 0)) j) (wc := gpW cA ad (gs (gs g 24 (lopM w (g 24) (z 0))) 25 (lpJ (wopM g (lopM w (g 24) (z 0))) (lpO (wopM g (lopM w (g 24) (z 0))) (g 25) (bitC w (z 0)) i) i j)) (zs z 3 (bitC w (z 0)))) (w1 := gpW cA ad (gs (gs g 24 (lopM w (g 24) (z 0))) 25 (lpJ (wopM g (lopM w (g 24) (z 0))) (lpO (wopM g (lopM w (g 24) (z 0))) (g 25) (bitC w (z 0)) i) i j)) (zs z 3 (bitC w (z 0)))) (ws1 := rlW cA ad (gs (gs g 24 (lopM w (g 24) (z 0))) 25 (lpJ (wopM g (lopM w (g 24) (z 0))) (lpO (wopM g (lopM w (g 24) (z 0))) (g 25) (bitC w (z 0)) i) i j)) (zs z 3 (bitC w (z 0)))) hx hb hml hown hT hK hP hD hS hA (c_X0_mentionAt l D cA ad (gs (gs g 24 (lopM w (g 24) (z 0))) 25 (lpJ (wopM g (lopM w (g 24) (z 0))) (lpO (wopM g (lopM w (g 24) (z 0))) (g 25) (bitC w (z 0)) i) i j)) (zs z 3 (bitC w (z 0))) j (show j < 6 by omega)) k_X0_mentionAt kl_X5_287 (q0 := 0) rfl rfl rfl ((rl_a cA ad (gs (gs g 24 (lopM w (g 24) (z 0))) 25 (lpJ (wopM g (lopM w (g 24) (z 0))) (lpO (wopM g (lopM w (g 24) (z 0))) (g 25) (bitC w (z 0)) i) i j)) (zs z 3 (bitC w (z 0))) ++ yrW cA ad (gs (gs g 24 (lopM w (g 24) (z 0))) 25 (lpJ (wopM g (lopM w (g 24) (z 0))) (lpO (wopM g (lopM w (g 24) (z 0))) (g 25) (bitC w (z 0)) i) i j)) (zs z 3 (bitC w (z 0)))) ++ psW cA ad (gs (gs g 24 (lopM w (g 24) (z 0))) 25 (lpJ (wopM g (lopM w (g 24) (z 0))) (lpO (wopM g (lopM w (g 24) (z 0))) (g 25) (bitC w (z 0)) i) i j)) (zs z 3 (bitC w (z 0)))) [] rl_g0 (rl_g rfl rfl rfl) ((gpW_adr _ _ _ _).trans (gpW_adr _ _ _ _).symm) hl rfl rfl (Nat.le_of_ble_eq_true rfl) ⟨⟨rfl, rfl⟩, Nat.le_of_ble_eq_true rfl, Nat.le_of_ble_eq_true rfl⟩ ⟨Nat.zero_le _, Nat.zero_le _⟩ dX5_layOutPairs_81 (fun H locs hP hD hS => ?_)
                refine q_top (y := nI (q_n (lopM w (g 24) (z 0) j))) ((lopM_r w (g 24) (z 0) (by omega) j (by omega)).eq (by omega)) ?_
                refine q_callIW (As := [.int (nI (q_n (lopM w (g 24) (z 0) i))), .int (nI (q_n (lopM w (g 24) (z 0) j)))]) (r := wop g (q_n (lopM w (g 24) (z 0) i)) (q_n (lopM w (g 24) (z 0) j))) (w1 := rlW cA ad (gs (gs g 24 (lopM w (g 24) (z 0))) 25 (lpJ (wopM g (lopM w (g 24) (z 0))) (lpO (wopM g (lopM w (g 24) (z 0))) (g 25) (bitC w (z 0)) i) i j)) (zs z 3 (bitC w (z 0)))) hx hb hml hown hT hK hP hD hS hA (c_X5_worthOfPair l D cA ad (gs (gs g 24 (lopM w (g 24) (z 0))) 25 (lpJ (wopM g (lopM w (g 24) (z 0))) (lpO (wopM g (lopM w (g 24) (z 0))) (g 25) (bitC w (z 0)) i) i j)) (zs z 3 (bitC w (z 0))) (q_n (lopM w (g 24) (z 0) i)) (q_n (lopM w (g 24) (z 0) j)) ((lopM_r w (g 24) (z 0) (by omega) i (by omega)).lt (by omega)) ((lopM_r w (g 24) (z 0) (by omega) j (by omega)).lt (by omega))) k_X5_worthOfPair kl_X5_290 (q0 := 0) rfl rfl rfl ((rlW_adr _ _ _ _).trans (rlW_adr _ _ _ _).symm) hl rfl rfl (Nat.le_of_ble_eq_true rfl) ⟨⟨rfl, rfl⟩, Nat.le_of_ble_eq_true rfl, Nat.le_of_ble_eq_true rfl⟩ ⟨Nat.zero_le _, Nat.zero_le _⟩ dX5_layOutPairs_84 (fun H locs hP hD hS => ?_)
                refine lv_istore (lv' := [(4, .int (wop g (q_n (lopM w (g 24) (z 0) i)) (q_n (lopM w (g 24) (z 0) j)))), (0, .ref (ad 70)), (1, .int w), (2, .int (nI i)), (3, .int (nI j))]) hx hb dX5_layOutPairs_87 hl (by decide) rfl (fun ls hl => ?_)
                refine lv_aload_n hx hb dX5_layOutPairs_89 rfl (lv_at hl 1 rfl) ?_
                refine q_get hx hb hT hown hK hP kw_X5 0 rfl rfl 12 (by decide) kf_X5_66 rfl (v := .ref (ad 73)) rfl dX5_layOutPairs_90 ?_
                refine lv_iload_n hx hb dX5_layOutPairs_93 rfl (lv_at hl 3 rfl) ?_
                refine lv_iload_n hx hb dX5_layOutPairs_94 rfl (lv_at hl 4 rfl) ?_
                refine lv_iload hx hb dX5_layOutPairs_95 (lv_at hl 0 rfl) ?_
                refine q_callVS (As := [.int (nI i), .int (nI j), .int (wop g (q_n (lopM w (g 24) (z 0) i)) (q_n (lopM w (g 24) (z 0) j)))]) (wc := gpW cA ad (gs (gs g 24 (lopM w (g 24) (z 0))) 25 (lpJ (wopM g (lopM w (g 24) (z 0))) (lpO (wopM g (lopM w (g 24) (z 0))) (g 25) (bitC w (z 0)) i) i j)) (zs z 3 (bitC w (z 0)))) (w1 := gpW cA ad (gs (gs g 24 (lopM w (g 24) (z 0))) 25 (upd (lpJ (wopM g (lopM w (g 24) (z 0))) (lpO (wopM g (lopM w (g 24) (z 0))) (g 25) (bitC w (z 0)) i) i j) (i * 6 + j) (wop g (q_n (lopM w (g 24) (z 0) i)) (q_n (lopM w (g 24) (z 0) j))))) (zs z 3 (bitC w (z 0)))) (ws1 := rlW cA ad (gs (gs g 24 (lopM w (g 24) (z 0))) 25 (upd (lpJ (wopM g (lopM w (g 24) (z 0))) (lpO (wopM g (lopM w (g 24) (z 0))) (g 25) (bitC w (z 0)) i) i j) (i * 6 + j) (wop g (q_n (lopM w (g 24) (z 0) i)) (q_n (lopM w (g 24) (z 0) j))))) (zs z 3 (bitC w (z 0)))) hx hb hml hown hT hK hP hD hS hA (c_X0_putWorth l D cA ad (gs (gs g 24 (lopM w (g 24) (z 0))) 25 (lpJ (wopM g (lopM w (g 24) (z 0))) (lpO (wopM g (lopM w (g 24) (z 0))) (g 25) (bitC w (z 0)) i) i j)) (zs z 3 (bitC w (z 0))) i j (wop g (q_n (lopM w (g 24) (z 0) i)) (q_n (lopM w (g 24) (z 0) j))) (show i < 6 by omega) (show j < 6 by omega)) k_X0_putWorth kl_X5_293 (q0 := 0) rfl rfl rfl ((rl_a cA ad (gs (gs g 24 (lopM w (g 24) (z 0))) 25 (lpJ (wopM g (lopM w (g 24) (z 0))) (lpO (wopM g (lopM w (g 24) (z 0))) (g 25) (bitC w (z 0)) i) i j)) (zs z 3 (bitC w (z 0))) ++ yrW cA ad (gs (gs g 24 (lopM w (g 24) (z 0))) 25 (lpJ (wopM g (lopM w (g 24) (z 0))) (lpO (wopM g (lopM w (g 24) (z 0))) (g 25) (bitC w (z 0)) i) i j)) (zs z 3 (bitC w (z 0)))) ++ psW cA ad (gs (gs g 24 (lopM w (g 24) (z 0))) 25 (lpJ (wopM g (lopM w (g 24) (z 0))) (lpO (wopM g (lopM w (g 24) (z 0))) (g 25) (bitC w (z 0)) i) i j)) (zs z 3 (bitC w (z 0)))) [] rl_g0 (rl_g rfl rfl rfl) ((gpW_adr _ _ _ _).trans (gpW_adr _ _ _ _).symm) hl rfl rfl (Nat.le_of_ble_eq_true rfl) ⟨⟨rfl, rfl⟩, Nat.le_of_ble_eq_true rfl, Nat.le_of_ble_eq_true rfl⟩ ⟨Nat.zero_le _, Nat.zero_le _⟩ dX5_layOutPairs_97 (fun H locs hP hD hS => ?_)
                obtain ⟨nF97_25, enF97_25⟩ : ∃ y : Nat → Int32, y = upd (lpJ (wopM g (lopM w (g 24) (z 0))) (lpO (wopM g (lopM w (g 24) (z 0))) (g 25) (bitC w (z 0)) i) i j) (i * 6 + j) (wop g (q_n (lopM w (g 24) (z 0) i)) (q_n (lopM w (g 24) (z 0) j))) := ⟨_, rfl⟩
                have hP : va_P D vwCl (rlW cA ad (gs (gs g 24 (lopM w (g 24) (z 0))) 25 nF97_25) (zs z 3 (bitC w (z 0)))) H := by rw [enF97_25]; exact hP
                have hD : va_D A (rlW cA ad (gs (gs g 24 (lopM w (g 24) (z 0))) 25 nF97_25) (zs z 3 (bitC w (z 0)))) := by rw [enF97_25]; exact hD
                refine lv_iinc (v := nI (j + 1)) (lv' := [(3, .int (nI (j + 1))), (4, .int (wop g (q_n (lopM w (g 24) (z 0) i)) (q_n (lopM w (g 24) (z 0) j)))), (0, .ref (ad 70)), (1, .int w), (2, .int (nI i))]) hx hb dX5_layOutPairs_100 hl (k := 4) rfl (q_inc1 _) (by decide) rfl (fun ls hl => ?_)
                refine lv_goto (tgt := 56) hx hb dX5_layOutPairs_103 (by decide) ?_
                rw [enF97_25] at hP hD
                have ew9 : (rlW cA ad (gs (gs g 24 (lopM w (g 24) (z 0))) 25 (upd (lpJ (wopM g (lopM w (g 24) (z 0))) (lpO (wopM g (lopM w (g 24) (z 0))) (g 25) (bitC w (z 0)) i) i j) (i * 6 + j) (wop g (q_n (lopM w (g 24) (z 0) i)) (q_n (lopM w (g 24) (z 0) j))))) (zs z 3 (bitC w (z 0)))) = (rlW cA ad (gs (gs g 24 (lopM w (g 24) (z 0))) 25 (lpJ (wopM g (lopM w (g 24) (z 0))) (lpO (wopM g (lopM w (g 24) (z 0))) (g 25) (bitC w (z 0)) i) i (j + 1))) (zs z 3 (bitC w (z 0)))) := by first | with_reducible rfl | (rw [← lpJ_s hij]; rfl)
                have hP : va_P D vwCl (rlW cA ad (gs (gs g 24 (lopM w (g 24) (z 0))) 25 (lpJ (wopM g (lopM w (g 24) (z 0))) (lpO (wopM g (lopM w (g 24) (z 0))) (g 25) (bitC w (z 0)) i) i (j + 1))) (zs z 3 (bitC w (z 0)))) H := va_cast' hP ew9
                have hD : va_D A (rlW cA ad (gs (gs g 24 (lopM w (g 24) (z 0))) 25 (lpJ (wopM g (lopM w (g 24) (z 0))) (lpO (wopM g (lopM w (g 24) (z 0))) (g 25) (bitC w (z 0)) i) i (j + 1))) (zs z 3 (bitC w (z 0)))) := va_castD hD ew9
                exact ih56 (j + 1) (by omega) (by omega) (by omega) (by omega) _ _ _ hP hD hS (lv_sub hl [2, 3, 4, 0] rfl)
          refine lv_iload_n hx hb dX5_layOutPairs_41 rfl (lv_at hl 2 rfl) ?_
          refine lv_aload_n hx hb dX5_layOutPairs_42 rfl (lv_at hl 0 rfl) ?_
          refine q_get hx hb hT hown hK hP kw_X5 0 rfl rfl 12 (by decide) kf_X5_66 rfl (v := .ref (ad 73)) rfl dX5_layOutPairs_43 ?_
          refine q_callIS (As := []) (r := nI (bitC w (z 0))) (wc := gpW cA ad (gs (gs g 24 (lopM w (g 24) (z 0))) 25 (lpO (wopM g (lopM w (g 24) (z 0))) (g 25) (bitC w (z 0)) i)) (zs z 3 (bitC w (z 0)))) (w1 := gpW cA ad (gs (gs g 24 (lopM w (g 24) (z 0))) 25 (lpO (wopM g (lopM w (g 24) (z 0))) (g 25) (bitC w (z 0)) i)) (zs z 3 (bitC w (z 0)))) (ws1 := rlW cA ad (gs (gs g 24 (lopM w (g 24) (z 0))) 25 (lpO (wopM g (lopM w (g 24) (z 0))) (g 25) (bitC w (z 0)) i)) (zs z 3 (bitC w (z 0)))) hx hb hml hown hT hK hP hD hS hA (c_X0_count l D cA ad (gs (gs g 24 (lopM w (g 24) (z 0))) 25 (lpO (wopM g (lopM w (g 24) (z 0))) (g 25) (bitC w (z 0)) i)) (zs z 3 (bitC w (z 0)))) k_X0_count kl_X5_284 (q0 := 0) rfl rfl rfl ((rl_a cA ad (gs (gs g 24 (lopM w (g 24) (z 0))) 25 (lpO (wopM g (lopM w (g 24) (z 0))) (g 25) (bitC w (z 0)) i)) (zs z 3 (bitC w (z 0))) ++ yrW cA ad (gs (gs g 24 (lopM w (g 24) (z 0))) 25 (lpO (wopM g (lopM w (g 24) (z 0))) (g 25) (bitC w (z 0)) i)) (zs z 3 (bitC w (z 0)))) ++ psW cA ad (gs (gs g 24 (lopM w (g 24) (z 0))) 25 (lpO (wopM g (lopM w (g 24) (z 0))) (g 25) (bitC w (z 0)) i)) (zs z 3 (bitC w (z 0)))) [] rl_g0 (rl_g rfl rfl rfl) ((gpW_adr _ _ _ _).trans (gpW_adr _ _ _ _).symm) hl rfl rfl (Nat.le_of_ble_eq_true rfl) ⟨⟨rfl, rfl⟩, Nat.le_of_ble_eq_true rfl, Nat.le_of_ble_eq_true rfl⟩ ⟨Nat.zero_le _, Nat.zero_le _⟩ dX5_layOutPairs_46 (fun H locs hP hD hS => ?_)
          refine lv_icmp_ge (tgt := 112) hx hb dX5_layOutPairs_49 (by decide) (fun c_49 => ?_) (fun c_49 => ?_)
          · have c_49 := nI_le1 (a := (bitC w (z 0))) (b := i) (by omega) (by omega) c_49
            exact q_vret hx hb hr hlk (va_cast' hP (by rw [show i = bitC w (z 0) by omega])) hS dX5_layOutPairs_112
          · have c_49 := nI_le0 (a := (bitC w (z 0))) (b := i) (by omega) (by omega) c_49
            refine lv_iload_n hx hb dX5_layOutPairs_52 rfl (lv_at hl 2 rfl) ?_
            refine lv_iconst (v := nI 1) hx hb dX5_layOutPairs_53 (by decide +kernel) ?_
            refine lv_iadd hx hb dX5_layOutPairs_54 ?_
            refine q_top (y := nI (i + 1)) (nI_add _ _) ?_
            refine lv_istore_n (lv' := [(3, .int (nI (i + 1))), (0, .ref (ad 70)), (1, .int w), (2, .int (nI i))]) hx hb dX5_layOutPairs_55 rfl hl (by decide) rfl (fun ls hl => ?_)
            have ew9 : (rlW cA ad (gs (gs g 24 (lopM w (g 24) (z 0))) 25 (lpO (wopM g (lopM w (g 24) (z 0))) (g 25) (bitC w (z 0)) i)) (zs z 3 (bitC w (z 0)))) = (rlW cA ad (gs (gs g 24 (lopM w (g 24) (z 0))) 25 (lpJ (wopM g (lopM w (g 24) (z 0))) (lpO (wopM g (lopM w (g 24) (z 0))) (g 25) (bitC w (z 0)) i) i (i + 1))) (zs z 3 (bitC w (z 0)))) := by first | with_reducible rfl | (rw [lpJ_0 _ (Nat.le_refl _)])
            have hP : va_P D vwCl (rlW cA ad (gs (gs g 24 (lopM w (g 24) (z 0))) 25 (lpJ (wopM g (lopM w (g 24) (z 0))) (lpO (wopM g (lopM w (g 24) (z 0))) (g 25) (bitC w (z 0)) i) i (i + 1))) (zs z 3 (bitC w (z 0)))) H := va_cast' hP ew9
            have hD : va_D A (rlW cA ad (gs (gs g 24 (lopM w (g 24) (z 0))) 25 (lpJ (wopM g (lopM w (g 24) (z 0))) (lpO (wopM g (lopM w (g 24) (z 0))) (g 25) (bitC w (z 0)) i) i (i + 1))) (zs z 3 (bitC w (z 0)))) := va_castD hD ew9
            exact zqL56 (bitC w (z 0) + 1) (i + 1) (by omega) (by omega) (by omega) (by omega) _ _ _ hP hD hS (lv_sub hl [1, 2, 3, 0] rfl)
      have zqJ33 : (k < (z 0)) → ∀ (H : Heap) (locs : List Loc) (ls : Array Slot), va_P D vwCl (rlW cA ad (gs g 24 (lopM w (g 24) (k + 1))) (zs z 3 (bitC w (k + 1)))) H → va_D A (rlW cA ad (gs g 24 (lopM w (g 24) (k + 1))) (zs z 3 (bitC w (k + 1)))) → va_S A s.heap H locs → lv_has ls 5 [(0, .ref (ad 70)), (1, .int w), (2, .int (nI k))] → W p l e rm_X5_layOutPairs s m args below meth c H locs 0 0 (q_GV D (rlW cA ad (gs (gs g 24 (lopM w (g 24) (z 0))) 25 (lpO (wopM g (lopM w (g 24) (z 0))) (g 25) (bitC w (z 0)) (bitC w (z 0)))) (zs z 3 (bitC w (z 0)))) A below args s) (F0 m 33 ls []) := by
        intro  hk9 H locs ls hP hD hS hl
        refine lv_iinc (v := nI (k + 1)) (lv' := [(2, .int (nI (k + 1))), (0, .ref (ad 70)), (1, .int w)]) hx hb dX5_layOutPairs_33 hl (k := 2) rfl (q_inc1 _) (by decide) rfl (fun ls hl => ?_)
        refine lv_goto (tgt := 9) hx hb dX5_layOutPairs_36 (by decide) ?_
        exact ih9 (k + 1) (by omega) (by omega) _ _ _ hP hD hS (lv_sub hl [1, 2, 0] rfl)
      refine lv_iload_n hx hb dX5_layOutPairs_9 rfl (lv_at hl 2 rfl) ?_
      refine lv_aload_n hx hb dX5_layOutPairs_10 rfl (lv_at hl 0 rfl) ?_
      refine q_get hx hb hT hown hK hP kw_X5 0 rfl rfl 15 (by decide) kf_X5_87 rfl (v := .int (nI (z 0))) rfl dX5_layOutPairs_11 ?_
      refine lv_icmp_ge (tgt := 39) hx hb dX5_layOutPairs_14 (by decide) (fun c_14 => ?_) (fun c_14 => ?_)
      · have c_14 := nI_le1 (a := z 0) (b := k) (by omega) (by omega) c_14
        refine lv_iconst (v := nI 0) hx hb dX5_layOutPairs_39 (by decide +kernel) ?_
        refine lv_istore_n (lv' := [(2, .int (nI 0)), (0, .ref (ad 70)), (1, .int w)]) hx hb dX5_layOutPairs_40 rfl hl (by decide) rfl (fun ls hl => ?_)
        have ew9 : (rlW cA ad (gs g 24 (lopM w (g 24) k)) (zs z 3 (bitC w k))) = (rlW cA ad (gs (gs g 24 (lopM w (g 24) (z 0))) 25 (lpO (wopM g (lopM w (g 24) (z 0))) (g 25) (bitC w (z 0)) 0)) (zs z 3 (bitC w (z 0)))) := by first | with_reducible rfl | (rw [show k = z 0 by omega, lpO_0]; rfl)
        have hP : va_P D vwCl (rlW cA ad (gs (gs g 24 (lopM w (g 24) (z 0))) 25 (lpO (wopM g (lopM w (g 24) (z 0))) (g 25) (bitC w (z 0)) 0)) (zs z 3 (bitC w (z 0)))) H := va_cast' hP ew9
        have hD : va_D A (rlW cA ad (gs (gs g 24 (lopM w (g 24) (z 0))) 25 (lpO (wopM g (lopM w (g 24) (z 0))) (g 25) (bitC w (z 0)) 0)) (zs z 3 (bitC w (z 0)))) := va_castD hD ew9
        exact zqL41 (bitC w (z 0) + 1) 0 (by omega) (by omega) _ _ _ hP hD hS (lv_sub hl [1, 2, 0] rfl)
      · have c_14 := nI_le0 (a := z 0) (b := k) (by omega) (by omega) c_14
        refine lv_iload_n hx hb dX5_layOutPairs_17 rfl (lv_at hl 1 rfl) ?_
        refine lv_iload_n hx hb dX5_layOutPairs_18 rfl (lv_at hl 2 rfl) ?_
        refine lv_ishr hx hb dX5_layOutPairs_19 ?_
        refine lv_iconst (v := nI 1) hx hb dX5_layOutPairs_20 (by decide +kernel) ?_
        refine lv_iand hx hb dX5_layOutPairs_21 ?_
        refine lv_if_eq (tgt := 33) hx hb dX5_layOutPairs_22 (by decide) (fun c_22 => ?_) (fun c_22 => ?_)
        · have d_22 : hasB w (nI k) = false := hasB_f c_22
          have ew9 : (rlW cA ad (gs g 24 (lopM w (g 24) k)) (zs z 3 (bitC w k))) = (rlW cA ad (gs g 24 (lopM w (g 24) (k + 1))) (zs z 3 (bitC w (k + 1)))) := by first | with_reducible rfl | (first | rw [(lop_f (f := g 24) d_22).1, (lop_f (f := g 24) d_22).2] | rw [(lop_t (f := g 24) d_22).1, (lop_t (f := g 24) d_22).2])
          have hP : va_P D vwCl (rlW cA ad (gs g 24 (lopM w (g 24) (k + 1))) (zs z 3 (bitC w (k + 1)))) H := va_cast' hP ew9
          have hD : va_D A (rlW cA ad (gs g 24 (lopM w (g 24) (k + 1))) (zs z 3 (bitC w (k + 1)))) := va_castD hD ew9
          exact zqJ33  (by omega) _ _ _ hP hD hS (lv_sub hl [0, 1, 2] rfl)
        · have d_22 : hasB w (nI k) = true := hasB_t c_22
          have hb1 := bitC_mono w (j := k + 1) (z 0) (by omega)
          have hb2 : bitC w k + 1 = bitC w (k + 1) := (lop_t (f := g 24) d_22).2
          refine lv_aload_n hx hb dX5_layOutPairs_25 rfl (lv_at hl 0 rfl) ?_
          refine q_get hx hb hT hown hK hP kw_X5 0 rfl rfl 12 (by decide) kf_X5_66 rfl (v := .ref (ad 73)) rfl dX5_layOutPairs_26 ?_
          refine lv_iload_n hx hb dX5_layOutPairs_29 rfl (lv_at hl 2 rfl) ?_
          refine q_callVS (As := [.int (nI k)]) (wc := gpW cA ad (gs g 24 (lopM w (g 24) k)) (zs z 3 (bitC w k))) (w1 := gpW cA ad (gs g 24 (upd (lopM w (g 24) k) (bitC w k) (nI k))) (zs z 3 ((bitC w k) + 1))) (ws1 := rlW cA ad (gs g 24 (upd (lopM w (g 24) k) (bitC w k) (nI k))) (zs z 3 ((bitC w k) + 1))) hx hb hml hown hT hK hP hD hS hA (c_X0_add l D cA ad (gs g 24 (lopM w (g 24) k)) (zs z 3 (bitC w k)) (nI k) (show (bitC w k) < 6 by omega)) k_X0_add kl_X5_281 (q0 := 0) rfl rfl rfl ((rl_a cA ad (gs g 24 (lopM w (g 24) k)) (zs z 3 (bitC w k)) ++ yrW cA ad (gs g 24 (lopM w (g 24) k)) (zs z 3 (bitC w k))) ++ psW cA ad (gs g 24 (lopM w (g 24) k)) (zs z 3 (bitC w k))) [] rl_g0 (rl_g rfl rfl rfl) ((gpW_adr _ _ _ _).trans (gpW_adr _ _ _ _).symm) hl rfl rfl (Nat.le_of_ble_eq_true rfl) ⟨⟨rfl, rfl⟩, Nat.le_of_ble_eq_true rfl, Nat.le_of_ble_eq_true rfl⟩ ⟨Nat.zero_le _, Nat.zero_le _⟩ dX5_layOutPairs_30 (fun H locs hP hD hS => ?_)
          obtain ⟨nF30_24, enF30_24⟩ : ∃ y : Nat → Int32, y = upd (lopM w (g 24) k) (bitC w k) (nI k) := ⟨_, rfl⟩
          have hP : va_P D vwCl (rlW cA ad (gs g 24 nF30_24) (zs z 3 ((bitC w k) + 1))) H := by rw [enF30_24]; exact hP
          have hD : va_D A (rlW cA ad (gs g 24 nF30_24) (zs z 3 ((bitC w k) + 1))) := by rw [enF30_24]; exact hD
          rw [enF30_24] at hP hD
          have ew9 : (rlW cA ad (gs g 24 (upd (lopM w (g 24) k) (bitC w k) (nI k))) (zs z 3 ((bitC w k) + 1))) = (rlW cA ad (gs g 24 (lopM w (g 24) (k + 1))) (zs z 3 (bitC w (k + 1)))) := by first | with_reducible rfl | (first | rw [(lop_f (f := g 24) d_22).1, (lop_f (f := g 24) d_22).2] | rw [(lop_t (f := g 24) d_22).1, (lop_t (f := g 24) d_22).2])
          have hP : va_P D vwCl (rlW cA ad (gs g 24 (lopM w (g 24) (k + 1))) (zs z 3 (bitC w (k + 1)))) H := va_cast' hP ew9
          have hD : va_D A (rlW cA ad (gs g 24 (lopM w (g 24) (k + 1))) (zs z 3 (bitC w (k + 1)))) := va_castD hD ew9
          exact zqJ33  (by omega) _ _ _ hP hD hS (lv_sub hl [0, 1, 2] rfl)
  refine lv_aload_n hx hb dX5_layOutPairs_0 rfl (lv_at hl 0 rfl) ?_
  refine q_get hx hb hT hown hK hP kw_X5 0 rfl rfl 12 (by decide) kf_X5_66 rfl (v := .ref (ad 73)) rfl dX5_layOutPairs_1 ?_
  refine q_callVS (As := []) (wc := gpW cA ad g z) (w1 := gpW cA ad g (zs z 3 0)) (ws1 := rlW cA ad g (zs z 3 0)) hx hb hml hown hT hK hP hD hS hA (c_X0_clear l D cA ad g z) k_X0_clear kl_X5_278 (q0 := 0) rfl rfl rfl ((rl_a cA ad g z ++ yrW cA ad g z) ++ psW cA ad g z) [] rl_g0 (rl_g rfl rfl rfl) ((gpW_adr _ _ _ _).trans (gpW_adr _ _ _ _).symm) hl rfl rfl (Nat.le_of_ble_eq_true rfl) ⟨⟨rfl, rfl⟩, Nat.le_of_ble_eq_true rfl, Nat.le_of_ble_eq_true rfl⟩ ⟨Nat.zero_le _, Nat.zero_le _⟩ dX5_layOutPairs_4 (fun H locs hP hD hS => ?_)
  refine lv_iconst (v := nI 0) hx hb dX5_layOutPairs_7 (by decide +kernel) ?_
  refine lv_istore_n (lv' := [(2, .int (nI 0)), (0, .ref (ad 70)), (1, .int w)]) hx hb dX5_layOutPairs_8 rfl hl (by decide) rfl (fun ls hl => ?_)
  have ew9 : (rlW cA ad g (zs z 3 0)) = (rlW cA ad (gs g 24 (lopM w (g 24) 0)) (zs z 3 (bitC w 0))) := by first | with_reducible rfl | (rfl)
  have hP : va_P D vwCl (rlW cA ad (gs g 24 (lopM w (g 24) 0)) (zs z 3 (bitC w 0))) H := va_cast' hP ew9
  have hD : va_D A (rlW cA ad (gs g 24 (lopM w (g 24) 0)) (zs z 3 (bitC w 0))) := va_castD hD ew9
  exact zqL9 (z 0 + 1) 0 (by omega) (by omega) _ _ _ hP hD hS (lv_sub hl [1, 2, 0] rfl)
