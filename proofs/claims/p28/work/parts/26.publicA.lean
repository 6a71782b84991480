/-! the public methods of the roll -/
theorem raG_le (g : Nat → Nat → Int32) (c0 i j : Nat) : raG g c0 i j ≤ 6 := by
  have h := raA_le g c0 i j c0
  unfold raG
  split
  · omega
  · split <;> omega
/-- where a career falls, among its first k places -/
def brN (f : Nat → Int32) : Nat → Nat
  | 0 => 0
  | k + 1 => if 0 < k ∧ f k < f (k - 1) then brN f k + 1 else brN f k
theorem brN_1 {f : Nat → Int32} : brN f 1 = 0 := rfl
theorem brN_t {f : Nat → Int32} {k : Nat} (h0 : 0 < k) (h : f k < f (k - 1)) : brN f k + 1 = brN f (k + 1) := by rw [brN, if_pos ⟨h0, h⟩]
theorem brN_f {f : Nat → Int32} {k : Nat} (h : ¬ f k < f (k - 1)) : brN f k = brN f (k + 1) := by rw [brN, if_neg (fun z => h z.2)]
theorem brN_le (f : Nat → Int32) : ∀ k, brN f k ≤ k
  | 0 => Nat.le_refl 0
  | k + 1 => by
    have := brN_le f k
    rw [brN]; split <;> omega
def rkC (g : Nat → Nat → Int32) (cr : Nat → Int32) (k : Nat) : Int32 := rAt 8 (g 5) (rAt 16 (g 3) (cr k))
/-- pairs that differ -/
def dfJ (g : Nat → Nat → Int32) (i : Nat) : Nat → Nat
  | 0 => 0
  | j + 1 => if i < j ∧ ¬ decide (g 22 i = g 22 j) = kn (g 4 i) (g 4 j) then dfJ g i j + 1 else dfJ g i j
def dfO (g : Nat → Nat → Int32) (n : Nat) : Nat → Nat
  | 0 => 0
  | i + 1 => dfO g n i + dfJ g i n
theorem dfJ_0 {g : Nat → Nat → Int32} {i : Nat} : ∀ j, j ≤ i + 1 → dfJ g i j = 0
  | 0, _ => rfl
  | j + 1, h => by rw [dfJ, if_neg (by omega), dfJ_0 j (by omega)]
theorem dfJ_t {g : Nat → Nat → Int32} {i j : Nat} (h : i < j) (h2 : ¬ decide (g 22 i = g 22 j) = kn (g 4 i) (g 4 j)) : dfJ g i j + 1 = dfJ g i (j + 1) := by rw [dfJ, if_pos ⟨h, h2⟩]
theorem dfJ_f {g : Nat → Nat → Int32} {i j : Nat} (h2 : decide (g 22 i = g 22 j) = kn (g 4 i) (g 4 j)) : dfJ g i j = dfJ g i (j + 1) := by rw [dfJ, if_neg (fun z => z.2 h2)]
theorem q_b_inj {a b : Bool} (h : q_b a = q_b b) : a = b := by cases a <;> cases b <;> first | rfl | (exact absurd h (by decide +kernel))
theorem q_b_ne {a b : Bool} (h : ¬ q_b a = q_b b) : ¬ a = b := fun z => h (z ▸ rfl)
/-- the JDK's count and the class's own agree -/
theorem hasB_bit {n k : Nat} (h : n < 65536) (hk : k < 16) : hasB (nI n) (nI k) = decide (n / 2 ^ k % 2 = 1) := by
  have e : ∀ k, k < 16 → nI k &&& 31 = nI k ∧ ((nI k).toBitVec.smod 32).toNat = k := by decide +kernel
  have hd : n / 2 ^ k ≤ n := Nat.div_le_self _ _
  unfold hasB
  rw [(e k hk).1, pk_shrN (by omega) (nI k) k (e k hk).2, pk_andN (by omega) 1 (by decide +kernel)]
  congr 1
  apply propext
  constructor
  · intro h1
    have h2 : n / 2 ^ k % 2 ^ 1 < 2 := Nat.mod_lt _ (by omega)
    rcases Nat.lt_or_ge (n / 2 ^ k % 2 ^ 1) 1 with q | q
    · rw [show n / 2 ^ k % 2 ^ 1 = 0 by omega] at h1
      exact absurd nI_0 h1
    · simpa using (show n / 2 ^ k % 2 ^ 1 = 1 by omega)
  · intro h1 h2
    rw [show n / 2 ^ k % 2 ^ 1 = 1 by simpa using h1] at h2
    exact absurd h2 (by decide +kernel)
theorem bitC_pop {n : Nat} (h : n < 65536) : ∀ k, k ≤ 16 → bitC (nI n) k = popN n k
  | 0, _ => rfl
  | k + 1, hk => by
    rw [bitC, popN, bitC_pop h k (by omega), hasB_bit h (by omega)]
    simp only [decide_eq_true_eq]
theorem popN_hi {n k : Nat} (h : n < 2 ^ k) : ∀ m, popN n (k + m) = popN n k
  | 0 => rfl
  | m + 1 => by
    have h1 : 2 ^ k ≤ 2 ^ (k + m) := Nat.pow_le_pow_right (by omega) (by omega)
    rw [← Nat.add_assoc, popN_s, popN_hi h m, Nat.div_eq_of_lt (by omega)]; omega
theorem bitC_pcN {n k : Nat} (h : n < 2 ^ k) (hk : k ≤ 16) : bitC (nI n) k = pcN n := by
  have h2 : 2 ^ k ≤ 2 ^ 16 := Nat.pow_le_pow_right (by omega) hk
  rw [bitC_pop (by omega) k hk, pcN_pop (by omega)]
  have := popN_hi h (16 - k)
  rw [show k + (16 - k) = 16 by omega] at this
  exact this.symm
theorem q_cf {α : Type} {b : Bool} {x y : α} (h : b = false) : y = bif b then x else y := by subst h; rfl
theorem q_ct {α : Type} {b : Bool} {x y : α} (h : b = true) : x = bif b then x else y := by subst h; rfl
theorem q_nlt9 {x y : Int32} (h : y ≤ x) : ¬ x < y := Int32.not_lt.mpr h
theorem q_lt9 {x y : Int32} (h : ¬ y ≤ x) : x < y := Int32.not_le.mp h
abbrev rm_X5_mention : Room := { frames := 2, cells := 0, slots := 0, locals := 44 }
set_option maxRecDepth 100000 in
set_option maxHeartbeats 4000000 in
theorem c_X5_mention (l : Launch) (D : va_G) (cA : ClassId) (ad : Nat → Nat) (g : Nat → Nat → Int32) (z : Nat → Nat) (nm : Int32) (fm : Int32) (pl : Int32) (po : Int32) (hpo : po = (-1) ∨ q_r po 8) (hnm : ¬ nm < nI 0 ∧ nm ≤ nI 9) (hfm : ¬ fm < (-1) ∧ fm ≤ nI 9) (hpl : ¬ pl < nI 0 ∧ pl ≤ nI 5) (hz16 : (z 0) < 16) (hz40 : (z 2) < 40) : q_CI l yX5_mention [Cond.code yX5_mention cX5_mention 6 (some .int)] rm_X5_mention D cA [.ref (ad 70), .int nm, .int fm, .int pl, .int po] (rlW cA ad g z) (nI (z 0)) (rlW cA ad (gs (gs (gs (gs (gs (gs (gs g 0 (upd (g 0) (z 0) nm)) 1 (upd (g 1) (z 0) fm)) 2 (upd (g 2) (z 0) pl)) 3 (upd (g 3) (z 0) po)) 4 (upd (g 4) (z 0) (-1))) 22 (upd (g 22) (z 0) (nI (z 2)))) 23 (upd (g 23) (z 2) (nI (z 2)))) (zs (zs z 0 ((z 0) + 1)) 2 ((z 2) + 1))) := by
  refine q_startI RX5 (by decide +kernel) rfl (Nat.le_of_ble_eq_true rfl) ?_
  intro p e s m below meth c A args H locs ls hx hb hr hml hown hT hlk hP hK hD hA hS hl
  have hl : lv_has ls 6 [(0, .ref (ad 70)), (1, .int nm), (2, .int fm), (3, .int pl), (4, .int po)] := hl
  have zqJ11 : ∀ (H : Heap) (locs : List Loc) (ls : Array Slot), va_P D vwCl (rlW cA ad g z) H → va_D A (rlW cA ad g z) → va_S A s.heap H locs → lv_has ls 6 [(0, .ref (ad 70)), (1, .int nm), (2, .int fm), (3, .int pl), (4, .int po)] → W p l e rm_X5_mention s m args below meth c H locs 0 0 (q_GI D (nI (z 0)) (rlW cA ad (gs (gs (gs (gs (gs (gs (gs g 0 (upd (g 0) (z 0) nm)) 1 (upd (g 1) (z 0) fm)) 2 (upd (g 2) (z 0) pl)) 3 (upd (g 3) (z 0) po)) 4 (upd (g 4) (z 0) (-1))) 22 (upd (g 22) (z 0) (nI (z 2)))) 23 (upd (g 23) (z 2) (nI (z 2)))) (zs (zs z 0 ((z 0) + 1)) 2 ((z 2) + 1))) A below args s) (F0 m 11 ls []) := by
    intro   H locs ls hP hD hS hl
    refine lv_iload_n hx hb dX5_mention_11 rfl (lv_at hl 1 rfl) ?_
    refine lv_iconst (v := nI 0) hx hb dX5_mention_12 (by decide +kernel) ?_
    refine lv_bipush (v := nI 9) hx hb dX5_mention_13 (by decide +kernel) ?_
    refine q_callSV (As := [.int nm, .int (nI 0), .int (nI 9)]) hx hb hml hown hT hK hP hD hS hA (c_X5_needWithin l D cA nm (nI 0) (nI 9) hnm.1 hnm.2) k_X5_needWithin kl_X5_83 hl rfl rfl (Nat.le_of_ble_eq_true rfl) ⟨⟨rfl, rfl⟩, Nat.le_of_ble_eq_true rfl, Nat.le_of_ble_eq_true rfl⟩ ⟨Nat.zero_le _, Nat.zero_le _⟩ dX5_mention_15 (fun H locs hP hD hS => ?_)
    refine lv_iload_n hx hb dX5_mention_18 rfl (lv_at hl 2 rfl) ?_
    refine lv_iconst (v := (-1)) hx hb dX5_mention_19 (by decide +kernel) ?_
    refine lv_bipush (v := nI 9) hx hb dX5_mention_20 (by decide +kernel) ?_
    refine q_callSV (As := [.int fm, .int (-1), .int (nI 9)]) hx hb hml hown hT hK hP hD hS hA (c_X5_needWithin l D cA fm (-1) (nI 9) hfm.1 hfm.2) k_X5_needWithin kl_X5_83 hl rfl rfl (Nat.le_of_ble_eq_true rfl) ⟨⟨rfl, rfl⟩, Nat.le_of_ble_eq_true rfl, Nat.le_of_ble_eq_true rfl⟩ ⟨Nat.zero_le _, Nat.zero_le _⟩ dX5_mention_22 (fun H locs hP hD hS => ?_)
    refine lv_iload_n hx hb dX5_mention_25 rfl (lv_at hl 3 rfl) ?_
    refine lv_iconst (v := nI 0) hx hb dX5_mention_26 (by decide +kernel) ?_
    refine lv_iconst (v := nI 5) hx hb dX5_mention_27 (by decide +kernel) ?_
    refine q_callSV (As := [.int pl, .int (nI 0), .int (nI 5)]) hx hb hml hown hT hK hP hD hS hA (c_X5_needWithin l D cA pl (nI 0) (nI 5) hpl.1 hpl.2) k_X5_needWithin kl_X5_83 hl rfl rfl (Nat.le_of_ble_eq_true rfl) ⟨⟨rfl, rfl⟩, Nat.le_of_ble_eq_true rfl, Nat.le_of_ble_eq_true rfl⟩ ⟨Nat.zero_le _, Nat.zero_le _⟩ dX5_mention_28 (fun H locs hP hD hS => ?_)
    refine lv_aload_n hx hb dX5_mention_31 rfl (lv_at hl 0 rfl) ?_
    refine q_get hx hb hT hown hK hP kw_X5 0 rfl rfl 15 (by decide) kf_X5_87 rfl (v := .int (nI (z 0))) rfl dX5_mention_32 ?_
    refine lv_bipush (v := nI 16) hx hb dX5_mention_35 (by decide +kernel) ?_
    refine lv_icmp_lt (tgt := 50) hx hb dX5_mention_37 (by decide) (fun c_37 => ?_) (fun c_37 => ?_)
    · have c_37 := nI_lt1 (a := z 0) (b := 16) (by omega) (by omega) c_37
      refine lv_aload_n hx hb dX5_mention_50 rfl (lv_at hl 0 rfl) ?_
      refine q_callVW (As := []) (w1 := rlW cA ad g z) hx hb hml hown hT hK hP hD hS hA (c_X5_needRoomForPerson l D cA ad g z (show (z 2) < 40 by omega)) k_X5_needRoomForPerson kl_X5_98 (q0 := 0) rfl rfl rfl ((rlW_adr _ _ _ _).trans (rlW_adr _ _ _ _).symm) hl rfl rfl (Nat.le_of_ble_eq_true rfl) ⟨⟨rfl, rfl⟩, Nat.le_of_ble_eq_true rfl, Nat.le_of_ble_eq_true rfl⟩ ⟨Nat.zero_le _, Nat.zero_le _⟩ dX5_mention_51 (fun H locs hP hD hS => ?_)
      refine lv_aload_n hx hb dX5_mention_54 rfl (lv_at hl 0 rfl) ?_
      refine q_get hx hb hT hown hK hP kw_X5 0 rfl rfl 15 (by decide) kf_X5_87 rfl (v := .int (nI (z 0))) rfl dX5_mention_55 ?_
      refine lv_istore (lv' := [(5, .int (nI (z 0))), (0, .ref (ad 70)), (1, .int nm), (2, .int fm), (3, .int pl), (4, .int po)]) hx hb dX5_mention_58 hl (by decide) rfl (fun ls hl => ?_)
      refine lv_aload_n hx hb dX5_mention_60 rfl (lv_at hl 1 rfl) ?_
      refine q_get hx hb hT hown hK hP kw_X5 0 rfl rfl 0 (by decide) kf_X5_14 rfl (v := .ref (ad 0)) rfl dX5_mention_61 ?_
      refine lv_iload hx hb dX5_mention_64 (lv_at hl 0 rfl) ?_
      refine lv_iload_n hx hb dX5_mention_66 rfl (lv_at hl 2 rfl) ?_
      refine q_callV (As := [.int (nI (z 0)), .int nm]) (wc := rowW cA (ad 0) (ad 30) 16 (g 0)) (w1 := rowW cA (ad 0) (ad 30) 16 (upd (g 0) (z 0) nm)) (ws1 := rlW cA ad (gs g 0 (upd (g 0) (z 0) nm)) z) hx hb hml hown hT hK hP hD hS hA (c_X3_putN l D cA (ad 0) (ad 30) 16 (g 0) (z 0) nm (by omega) (by omega)) k_X3_put kl_X5_76 (q0 := 0) rfl rfl rfl [1, 2] rfl rfl rfl rfl hl rfl rfl (Nat.le_of_ble_eq_true rfl) ⟨⟨rfl, rfl⟩, Nat.le_of_ble_eq_true rfl, Nat.le_of_ble_eq_true rfl⟩ ⟨Nat.zero_le _, Nat.zero_le _⟩ dX5_mention_67 (fun H locs hP hD hS => ?_)
      obtain ⟨nF67_0, enF67_0⟩ : ∃ y : Nat → Int32, y = upd (g 0) (z 0) nm := ⟨_, rfl⟩
      have hP : va_P D vwCl (rlW cA ad (gs g 0 nF67_0) z) H := by rw [enF67_0]; exact hP
      have hD : va_D A (rlW cA ad (gs g 0 nF67_0) z) := by rw [enF67_0]; exact hD
      refine lv_aload_n hx hb dX5_mention_70 rfl (lv_at hl 1 rfl) ?_
      refine q_get hx hb hT hown hK hP kw_X5 0 rfl rfl 1 (by decide) kf_X5_18 rfl (v := .ref (ad 1)) rfl dX5_mention_71 ?_
      refine lv_iload hx hb dX5_mention_74 (lv_at hl 0 rfl) ?_
      refine lv_iload_n hx hb dX5_mention_76 rfl (lv_at hl 3 rfl) ?_
      refine q_callV (As := [.int (nI (z 0)), .int fm]) (wc := rowW cA (ad 1) (ad 31) 16 (g 1)) (w1 := rowW cA (ad 1) (ad 31) 16 (upd (g 1) (z 0) fm)) (ws1 := rlW cA ad (gs (gs g 0 nF67_0) 1 (upd (g 1) (z 0) fm)) z) hx hb hml hown hT hK hP hD hS hA (c_X3_putN l D cA (ad 1) (ad 31) 16 (g 1) (z 0) fm (by omega) (by omega)) k_X3_put kl_X5_76 (q0 := 0) rfl rfl rfl [3, 4] rfl rfl rfl rfl hl rfl rfl (Nat.le_of_ble_eq_true rfl) ⟨⟨rfl, rfl⟩, Nat.le_of_ble_eq_true rfl, Nat.le_of_ble_eq_true rfl⟩ ⟨Nat.zero_le _, Nat.zero_le _⟩ dX5_mention_77 (fun H locs hP hD hS => ?_)
      obtain ⟨nF77_1, enF77_1⟩ : ∃ y : Nat → Int32, y = upd (g 1) (z 0) fm := ⟨_, rfl⟩
      have hP : va_P D vwCl (rlW cA ad (gs (gs g 0 nF67_0) 1 nF77_1) z) H := by rw [enF77_1]; exact hP
      have hD : va_D A (rlW cA ad (gs (gs g 0 nF67_0) 1 nF77_1) z) := by rw [enF77_1]; exact hD
      refine lv_aload_n hx hb dX5_mention_80 rfl (lv_at hl 1 rfl) ?_
      refine q_get hx hb hT hown hK hP kw_X5 0 rfl rfl 2 (by decide) kf_X5_21 rfl (v := .ref (ad 2)) rfl dX5_mention_81 ?_
      refine lv_iload hx hb dX5_mention_84 (lv_at hl 0 rfl) ?_
      refine lv_iload_n hx hb dX5_mention_86 rfl (lv_at hl 4 rfl) ?_
      refine q_callV (As := [.int (nI (z 0)), .int pl]) (wc := rowW cA (ad 2) (ad 32) 16 (g 2)) (w1 := rowW cA (ad 2) (ad 32) 16 (upd (g 2) (z 0) pl)) (ws1 := rlW cA ad (gs (gs (gs g 0 nF67_0) 1 nF77_1) 2 (upd (g 2) (z 0) pl)) z) hx hb hml hown hT hK hP hD hS hA (c_X3_putN l D cA (ad 2) (ad 32) 16 (g 2) (z 0) pl (by omega) (by omega)) k_X3_put kl_X5_76 (q0 := 0) rfl rfl rfl [5, 6] rfl rfl rfl rfl hl rfl rfl (Nat.le_of_ble_eq_true rfl) ⟨⟨rfl, rfl⟩, Nat.le_of_ble_eq_true rfl, Nat.le_of_ble_eq_true rfl⟩ ⟨Nat.zero_le _, Nat.zero_le _⟩ dX5_mention_87 (fun H locs hP hD hS => ?_)
      obtain ⟨nF87_2, enF87_2⟩ : ∃ y : Nat → Int32, y = upd (g 2) (z 0) pl := ⟨_, rfl⟩
      have hP : va_P D vwCl (rlW cA ad (gs (gs (gs g 0 nF67_0) 1 nF77_1) 2 nF87_2) z) H := by rw [enF87_2]; exact hP
      have hD : va_D A (rlW cA ad (gs (gs (gs g 0 nF67_0) 1 nF77_1) 2 nF87_2) z) := by rw [enF87_2]; exact hD
      refine lv_aload_n hx hb dX5_mention_90 rfl (lv_at hl 1 rfl) ?_
      refine q_get hx hb hT hown hK hP kw_X5 0 rfl rfl 3 (by decide) kf_X5_24 rfl (v := .ref (ad 3)) rfl dX5_mention_91 ?_
      refine lv_iload hx hb dX5_mention_94 (lv_at hl 0 rfl) ?_
      refine lv_iload hx hb dX5_mention_96 (lv_at hl 5 rfl) ?_
      refine q_callV (As := [.int (nI (z 0)), .int po]) (wc := rowW cA (ad 3) (ad 33) 16 (g 3)) (w1 := rowW cA (ad 3) (ad 33) 16 (upd (g 3) (z 0) po)) (ws1 := rlW cA ad (gs (gs (gs (gs g 0 nF67_0) 1 nF77_1) 2 nF87_2) 3 (upd (g 3) (z 0) po)) z) hx hb hml hown hT hK hP hD hS hA (c_X3_putN l D cA (ad 3) (ad 33) 16 (g 3) (z 0) po (by omega) (by omega)) k_X3_put kl_X5_76 (q0 := 0) rfl rfl rfl [7, 8] rfl rfl rfl rfl hl rfl rfl (Nat.le_of_ble_eq_true rfl) ⟨⟨rfl, rfl⟩, Nat.le_of_ble_eq_true rfl, Nat.le_of_ble_eq_true rfl⟩ ⟨Nat.zero_le _, Nat.zero_le _⟩ dX5_mention_98 (fun H locs hP hD hS => ?_)
      obtain ⟨nF98_3, enF98_3⟩ : ∃ y : Nat → Int32, y = upd (g 3) (z 0) po := ⟨_, rfl⟩
      have hP : va_P D vwCl (rlW cA ad (gs (gs (gs (gs g 0 nF67_0) 1 nF77_1) 2 nF87_2) 3 nF98_3) z) H := by rw [enF98_3]; exact hP
      have hD : va_D A (rlW cA ad (gs (gs (gs (gs g 0 nF67_0) 1 nF77_1) 2 nF87_2) 3 nF98_3) z) := by rw [enF98_3]; exact hD
      refine lv_aload_n hx hb dX5_mention_101 rfl (lv_at hl 1 rfl) ?_
      refine q_get hx hb hT hown hK hP kw_X5 0 rfl rfl 4 (by decide) kf_X5_27 rfl (v := .ref (ad 4)) rfl dX5_mention_102 ?_
      refine lv_iload hx hb dX5_mention_105 (lv_at hl 0 rfl) ?_
      refine lv_iconst (v := (-1)) hx hb dX5_mention_107 (by decide +kernel) ?_
      refine q_callV (As := [.int (nI (z 0)), .int (-1)]) (wc := rowW cA (ad 4) (ad 34) 16 (g 4)) (w1 := rowW cA (ad 4) (ad 34) 16 (upd (g 4) (z 0) (-1))) (ws1 := rlW cA ad (gs (gs (gs (gs (gs g 0 nF67_0) 1 nF77_1) 2 nF87_2) 3 nF98_3) 4 (upd (g 4) (z 0) (-1))) z) hx hb hml hown hT hK hP hD hS hA (c_X3_putN l D cA (ad 4) (ad 34) 16 (g 4) (z 0) (-1) (by omega) (by omega)) k_X3_put kl_X5_76 (q0 := 0) rfl rfl rfl [9, 10] rfl rfl rfl rfl hl rfl rfl (Nat.le_of_ble_eq_true rfl) ⟨⟨rfl, rfl⟩, Nat.le_of_ble_eq_true rfl, Nat.le_of_ble_eq_true rfl⟩ ⟨Nat.zero_le _, Nat.zero_le _⟩ dX5_mention_108 (fun H locs hP hD hS => ?_)
      obtain ⟨nF108_4, enF108_4⟩ : ∃ y : Nat → Int32, y = upd (g 4) (z 0) (-1) := ⟨_, rfl⟩
      have hP : va_P D vwCl (rlW cA ad (gs (gs (gs (gs (gs g 0 nF67_0) 1 nF77_1) 2 nF87_2) 3 nF98_3) 4 nF108_4) z) H := by rw [enF108_4]; exact hP
      have hD : va_D A (rlW cA ad (gs (gs (gs (gs (gs g 0 nF67_0) 1 nF77_1) 2 nF87_2) 3 nF98_3) 4 nF108_4) z) := by rw [enF108_4]; exact hD
      refine lv_aload_n hx hb dX5_mention_111 rfl (lv_at hl 1 rfl) ?_
      refine q_get hx hb hT hown hK hP kw_X5 0 rfl rfl 11 (by decide) kf_X5_59 rfl (v := .ref (ad 72)) rfl dX5_mention_112 ?_
      refine lv_iload hx hb dX5_mention_115 (lv_at hl 0 rfl) ?_
      refine q_callIS (As := [.int (nI (z 0))]) (r := nI (z 2)) (wc := psW cA ad (gs (gs (gs (gs (gs g 0 nF67_0) 1 nF77_1) 2 nF87_2) 3 nF98_3) 4 nF108_4) z) (w1 := psW cA ad (gs (gs (gs (gs (gs (gs (gs g 0 nF67_0) 1 nF77_1) 2 nF87_2) 3 nF98_3) 4 nF108_4) 22 (upd (g 22) (z 0) (nI (z 2)))) 23 (upd (g 23) (z 2) (nI (z 2)))) (zs z 2 ((z 2) + 1))) (ws1 := rlW cA ad (gs (gs (gs (gs (gs (gs (gs g 0 nF67_0) 1 nF77_1) 2 nF87_2) 3 nF98_3) 4 nF108_4) 22 (upd (g 22) (z 0) (nI (z 2)))) 23 (upd (g 23) (z 2) (nI (z 2)))) (zs z 2 ((z 2) + 1))) hx hb hml hown hT hK hP hD hS hA (c_X2_moveToNew l D cA ad (gs (gs (gs (gs (gs g 0 nF67_0) 1 nF77_1) 2 nF87_2) 3 nF98_3) 4 nF108_4) z (z 0) (show (z 0) < 16 by omega) (show (z 2) < 40 by omega)) k_X2_moveToNew kl_X5_101 (q0 := 0) rfl rfl rfl (rl_a cA ad (gs (gs (gs (gs (gs g 0 nF67_0) 1 nF77_1) 2 nF87_2) 3 nF98_3) 4 nF108_4) z ++ yrW cA ad (gs (gs (gs (gs (gs g 0 nF67_0) 1 nF77_1) 2 nF87_2) 3 nF98_3) 4 nF108_4) z) (gpW cA ad (gs (gs (gs (gs (gs g 0 nF67_0) 1 nF77_1) 2 nF87_2) 3 nF98_3) 4 nF108_4) z) (List.append_assoc _ _ _).symm (rl_p rfl rfl rfl) ((psW_adr _ _ _ _).trans (psW_adr _ _ _ _).symm) hl rfl rfl (Nat.le_of_ble_eq_true rfl) ⟨⟨rfl, rfl⟩, Nat.le_of_ble_eq_true rfl, Nat.le_of_ble_eq_true rfl⟩ ⟨Nat.zero_le _, Nat.zero_le _⟩ dX5_mention_117 (fun H locs hP hD hS => ?_)
      obtain ⟨nF117_22, enF117_22⟩ : ∃ y : Nat → Int32, y = upd (g 22) (z 0) (nI (z 2)) := ⟨_, rfl⟩
      have hP : va_P D vwCl (rlW cA ad (gs (gs (gs (gs (gs (gs (gs g 0 nF67_0) 1 nF77_1) 2 nF87_2) 3 nF98_3) 4 nF108_4) 22 nF117_22) 23 (upd (g 23) (z 2) (nI (z 2)))) (zs z 2 ((z 2) + 1))) H := by rw [enF117_22]; exact hP
      have hD : va_D A (rlW cA ad (gs (gs (gs (gs (gs (gs (gs g 0 nF67_0) 1 nF77_1) 2 nF87_2) 3 nF98_3) 4 nF108_4) 22 nF117_22) 23 (upd (g 23) (z 2) (nI (z 2)))) (zs z 2 ((z 2) + 1))) := by rw [enF117_22]; exact hD
      obtain ⟨nF117_23, enF117_23⟩ : ∃ y : Nat → Int32, y = upd (g 23) (z 2) (nI (z 2)) := ⟨_, rfl⟩
      have hP : va_P D vwCl (rlW cA ad (gs (gs (gs (gs (gs (gs (gs g 0 nF67_0) 1 nF77_1) 2 nF87_2) 3 nF98_3) 4 nF108_4) 22 nF117_22) 23 nF117_23) (zs z 2 ((z 2) + 1))) H := by rw [enF117_23]; exact hP
      have hD : va_D A (rlW cA ad (gs (gs (gs (gs (gs (gs (gs g 0 nF67_0) 1 nF77_1) 2 nF87_2) 3 nF98_3) 4 nF108_4) 22 nF117_22) 23 nF117_23) (zs z 2 ((z 2) + 1))) := by rw [enF117_23]; exact hD
      refine lv_pop hx hb dX5_mention_120 rfl ?_
      refine lv_aload_n hx hb dX5_mention_121 rfl (lv_at hl 1 rfl) ?_
      refine lv_dup hx hb dX5_mention_122 rfl ?_
      refine q_get hx hb hT hown hK hP kw_X5 0 rfl rfl 15 (by decide) kf_X5_87 rfl (v := .int (nI (z 0))) rfl dX5_mention_123 ?_
      refine lv_iconst (v := nI 1) hx hb dX5_mention_126 (by decide +kernel) ?_
      refine lv_iadd hx hb dX5_mention_127 ?_
      refine q_top (y := nI (z 0 + 1)) (nI_add _ _) ?_
      refine q_put (ty := .int) (ws1 := rlW cA ad (gs (gs (gs (gs (gs (gs (gs g 0 nF67_0) 1 nF77_1) 2 nF87_2) 3 nF98_3) 4 nF108_4) 22 nF117_22) 23 nF117_23) (zs (zs z 0 (z 0 + 1)) 2 ((z 2) + 1))) hx hb hT hown hK hP hD hS kw_X5 tyX5_ok nmX5 0 rfl rfl 15 (by decide) kf_X5_87 rfl rfl (by decide +kernel) rfl rfl (Nat.le_of_ble_eq_true rfl) rfl dX5_mention_128 (fun H locs hP hD hS => ?_)
      refine lv_iload hx hb dX5_mention_131 (lv_at hl 0 rfl) ?_
      rw [enF117_23] at hP hD
      rw [enF117_22] at hP hD
      rw [enF108_4] at hP hD
      rw [enF98_3] at hP hD
      rw [enF87_2] at hP hD
      rw [enF77_1] at hP hD
      rw [enF67_0] at hP hD
      exact q_iret hx hb hr hlk (by rfl) (va_cast' hP (by rfl)) hS dX5_mention_133
    · have c_37 := nI_lt0 (a := z 0) (b := 16) (by omega) (by omega) c_37
      exfalso; omega
  refine lv_iload hx hb dX5_mention_0 (lv_at hl 4 rfl) ?_
  refine lv_iconst (v := (-1)) hx hb dX5_mention_2 (by decide +kernel) ?_
  refine lv_icmp_eq (tgt := 11) hx hb dX5_mention_3 (by decide) (fun c_3 => ?_) (fun c_3 => ?_)
  · exact zqJ11   _ _ _ hP hD hS (lv_sub hl [0, 1, 2, 3, 4] rfl)
  · refine lv_iload hx hb dX5_mention_6 (lv_at hl 4 rfl) ?_
    refine q_callSV (As := [.int po]) hx hb hml hown hT hK hP hD hS hA (c_X5_needPost l D cA po (hpo.resolve_left c_3)) k_X5_needPost kl_X5_80 hl rfl rfl (Nat.le_of_ble_eq_true rfl) ⟨⟨rfl, rfl⟩, Nat.le_of_ble_eq_true rfl, Nat.le_of_ble_eq_true rfl⟩ ⟨Nat.zero_le _, Nat.zero_le _⟩ dX5_mention_8 (fun H locs hP hD hS => ?_)
    exact zqJ11   _ _ _ hP hD hS (lv_sub hl [0, 1, 2, 3, 4] rfl)
abbrev rm_X5_mentionx : Room := { frames := 7, cells := 1, slots := 6, locals := 102 }
set_option maxRecDepth 100000 in
set_option maxHeartbeats 4000000 in
theorem c_X5_mentionx (l : Launch) (htr : l.stackTraces = false) (D : va_G) (cA : ClassId) (ad : Nat → Nat) (g : Nat → Nat → Int32) (z : Nat → Nat) (nm : Int32) (fm : Int32) (pl : Int32) (po : Int32) (hp1 : ¬ po = (-1)) (hp2 : ¬ q_r po 8) : q_CX l yX5_mention [Cond.code yX5_mention cX5_mention 6 (some .int)] rm_X5_mentionx D cA [.ref (ad 70), .int nm, .int fm, .int pl, .int po] (rlW cA ad g z) "java/lang/IndexOutOfBoundsException" (rlW cA ad g z) := by
  refine q_startX RX5 (by decide +kernel) rfl (Nat.le_of_ble_eq_true rfl) ?_
  intro p e s m below meth c A args H locs ls hx hb hr hml hown hT hlk hP hK hD hA hS hl hout hX hZ
  have hl : lv_has ls 6 [(0, .ref (ad 70)), (1, .int nm), (2, .int fm), (3, .int pl), (4, .int po)] := hl
  refine lv_iload hx hb dX5_mention_0 (lv_at hl 4 rfl) ?_
  refine lv_iconst (v := (-1)) hx hb dX5_mention_2 (by decide +kernel) ?_
  refine lv_icmp_eq (tgt := 11) hx hb dX5_mention_3 (by decide) (fun c_3 => ?_) (fun c_3 => ?_)
  · exact absurd c_3 hp1
  · refine lv_iload hx hb dX5_mention_6 (lv_at hl 4 rfl) ?_
    exact q_callXS (As := [.int po]) hx hb hml hown hT hK hP hD hS hA hout hlk hX hZ (c_X5_needPostx l htr D cA po hp2) k_X5_needPost kl_X5_80 hl rfl rfl (Nat.le_of_ble_eq_true rfl) ⟨⟨rfl, rfl⟩, Nat.le_of_ble_eq_true rfl, Nat.le_of_ble_eq_true rfl⟩ ⟨Nat.le_of_ble_eq_true rfl, Nat.le_of_ble_eq_true rfl⟩ dX5_mention_8
abbrev rm_X5_mentionx2 : Room := { frames := 7, cells := 1, slots := 6, locals := 104 }
set_option maxRecDepth 100000 in
set_option maxHeartbeats 4000000 in
theorem c_X5_mentionx2 (l : Launch) (htr : l.stackTraces = false) (D : va_G) (cA : ClassId) (ad : Nat → Nat) (g : Nat → Nat → Int32) (z : Nat → Nat) (nm : Int32) (fm : Int32) (pl : Int32) (po : Int32) (hpo : po = (-1) ∨ q_r po 8) (hnm : ¬ (¬ nm < nI 0 ∧ nm ≤ nI 9)) : q_CX l yX5_mention [Cond.code yX5_mention cX5_mention 6 (some .int)] rm_X5_mentionx2 D cA [.ref (ad 70), .int nm, .int fm, .int pl, .int po] (rlW cA ad g z) "java/lang/IllegalArgumentException" (rlW cA ad g z) := by
  refine q_startX RX5 (by decide +kernel) rfl (Nat.le_of_ble_eq_true rfl) ?_
  intro p e s m below meth c A args H locs ls hx hb hr hml hown hT hlk hP hK hD hA hS hl hout hX hZ
  have hl : lv_has ls 6 [(0, .ref (ad 70)), (1, .int nm), (2, .int fm), (3, .int pl), (4, .int po)] := hl
  have zqJ11 : ∀ (H : Heap) (locs : List Loc) (ls : Array Slot), va_P D vwCl (rlW cA ad g z) H → va_D A (rlW cA ad g z) → va_S A s.heap H locs → lv_has ls 6 [(0, .ref (ad 70)), (1, .int nm), (2, .int fm), (3, .int pl), (4, .int po)] → W p l e rm_X5_mentionx2 s m args below meth c H locs 0 0 (q_GX D "java/lang/IllegalArgumentException" (rlW cA ad g z) A below args s) (F0 m 11 ls []) := by
    intro   H locs ls hP hD hS hl
    refine lv_iload_n hx hb dX5_mention_11 rfl (lv_at hl 1 rfl) ?_
    refine lv_iconst (v := nI 0) hx hb dX5_mention_12 (by decide +kernel) ?_
    refine lv_bipush (v := nI 9) hx hb dX5_mention_13 (by decide +kernel) ?_
    exact q_callXS (As := [.int nm, .int (nI 0), .int (nI 9)]) hx hb hml hown hT hK hP hD hS hA hout hlk hX hZ (c_X5_needWithinx l htr D cA nm (nI 0) (nI 9) hnm) k_X5_needWithin kl_X5_83 hl rfl rfl (Nat.le_of_ble_eq_true rfl) ⟨⟨rfl, rfl⟩, Nat.le_of_ble_eq_true rfl, Nat.le_of_ble_eq_true rfl⟩ ⟨Nat.le_of_ble_eq_true rfl, Nat.le_of_ble_eq_true rfl⟩ dX5_mention_15
  refine lv_iload hx hb dX5_mention_0 (lv_at hl 4 rfl) ?_
  refine lv_iconst (v := (-1)) hx hb dX5_mention_2 (by decide +kernel) ?_
  refine lv_icmp_eq (tgt := 11) hx hb dX5_mention_3 (by decide) (fun c_3 => ?_) (fun c_3 => ?_)
  · exact zqJ11   _ _ _ hP hD hS (lv_sub hl [0, 1, 2, 3, 4] rfl)
  · refine lv_iload hx hb dX5_mention_6 (lv_at hl 4 rfl) ?_
    refine q_callSV (As := [.int po]) hx hb hml hown hT hK hP hD hS hA (c_X5_needPost l D cA po (hpo.resolve_left c_3)) k_X5_needPost kl_X5_80 hl rfl rfl (Nat.le_of_ble_eq_true rfl) ⟨⟨rfl, rfl⟩, Nat.le_of_ble_eq_true rfl, Nat.le_of_ble_eq_true rfl⟩ ⟨Nat.zero_le _, Nat.zero_le _⟩ dX5_mention_8 (fun H locs hP hD hS => ?_)
    exact zqJ11   _ _ _ hP hD hS (lv_sub hl [0, 1, 2, 3, 4] rfl)
abbrev rm_X5_mentionx3 : Room := { frames := 7, cells := 1, slots := 6, locals := 104 }
set_option maxRecDepth 100000 in
set_option maxHeartbeats 4000000 in
theorem c_X5_mentionx3 (l : Launch) (htr : l.stackTraces = false) (D : va_G) (cA : ClassId) (ad : Nat → Nat) (g : Nat → Nat → Int32) (z : Nat → Nat) (nm : Int32) (fm : Int32) (pl : Int32) (po : Int32) (hpo : po = (-1) ∨ q_r po 8) (hnm : ¬ nm < nI 0 ∧ nm ≤ nI 9) (hfm : ¬ (¬ fm < (-1) ∧ fm ≤ nI 9)) : q_CX l yX5_mention [Cond.code yX5_mention cX5_mention 6 (some .int)] rm_X5_mentionx3 D cA [.ref (ad 70), .int nm, .int fm, .int pl, .int po] (rlW cA ad g z) "java/lang/IllegalArgumentException" (rlW cA ad g z) := by
  refine q_startX RX5 (by decide +kernel) rfl (Nat.le_of_ble_eq_true rfl) ?_
  intro p e s m below meth c A args H locs ls hx hb hr hml hown hT hlk hP hK hD hA hS hl hout hX hZ
  have hl : lv_has ls 6 [(0, .ref (ad 70)), (1, .int nm), (2, .int fm), (3, .int pl), (4, .int po)] := hl
  have zqJ11 : ∀ (H : Heap) (locs : List Loc) (ls : Array Slot), va_P D vwCl (rlW cA ad g z) H → va_D A (rlW cA ad g z) → va_S A s.heap H locs → lv_has ls 6 [(0, .ref (ad 70)), (1, .int nm), (2, .int fm), (3, .int pl), (4, .int po)] → W p l e rm_X5_mentionx3 s m args below meth c H locs 0 0 (q_GX D "java/lang/IllegalArgumentException" (rlW cA ad g z) A below args s) (F0 m 11 ls []) := by
    intro   H locs ls hP hD hS hl
    refine lv_iload_n hx hb dX5_mention_11 rfl (lv_at hl 1 rfl) ?_
    refine lv_iconst (v := nI 0) hx hb dX5_mention_12 (by decide +kernel) ?_
    refine lv_bipush (v := nI 9) hx hb dX5_mention_13 (by decide +kernel) ?_
    refine q_callSV (As := [.int nm, .int (nI 0), .int (nI 9)]) hx hb hml hown hT hK hP hD hS hA (c_X5_needWithin l D cA nm (nI 0) (nI 9) hnm.1 hnm.2) k_X5_needWithin kl_X5_83 hl rfl rfl (Nat.le_of_ble_eq_true rfl) ⟨⟨rfl, rfl⟩, Nat.le_of_ble_eq_true rfl, Nat.le_of_ble_eq_true rfl⟩ ⟨Nat.zero_le _, Nat.zero_le _⟩ dX5_mention_15 (fun H locs hP hD hS => ?_)
    refine lv_iload_n hx hb dX5_mention_18 rfl (lv_at hl 2 rfl) ?_
    refine lv_iconst (v := (-1)) hx hb dX5_mention_19 (by decide +kernel) ?_
    refine lv_bipush (v := nI 9) hx hb dX5_mention_20 (by decide +kernel) ?_
    exact q_callXS (As := [.int fm, .int (-1), .int (nI 9)]) hx hb hml hown hT hK hP hD hS hA hout hlk hX hZ (c_X5_needWithinx l htr D cA fm (-1) (nI 9) hfm) k_X5_needWithin kl_X5_83 hl rfl rfl (Nat.le_of_ble_eq_true rfl) ⟨⟨rfl, rfl⟩, Nat.le_of_ble_eq_true rfl, Nat.le_of_ble_eq_true rfl⟩ ⟨Nat.le_of_ble_eq_true rfl, Nat.le_of_ble_eq_true rfl⟩ dX5_mention_22
  refine lv_iload hx hb dX5_mention_0 (lv_at hl 4 rfl) ?_
  refine lv_iconst (v := (-1)) hx hb dX5_mention_2 (by decide +kernel) ?_
  refine lv_icmp_eq (tgt := 11) hx hb dX5_mention_3 (by decide) (fun c_3 => ?_) (fun c_3 => ?_)
  · exact zqJ11   _ _ _ hP hD hS (lv_sub hl [0, 1, 2, 3, 4] rfl)
  · refine lv_iload hx hb dX5_mention_6 (lv_at hl 4 rfl) ?_
    refine q_callSV (As := [.int po]) hx hb hml hown hT hK hP hD hS hA (c_X5_needPost l D cA po (hpo.resolve_left c_3)) k_X5_needPost kl_X5_80 hl rfl rfl (Nat.le_of_ble_eq_true rfl) ⟨⟨rfl, rfl⟩, Nat.le_of_ble_eq_true rfl, Nat.le_of_ble_eq_true rfl⟩ ⟨Nat.zero_le _, Nat.zero_le _⟩ dX5_mention_8 (fun H locs hP hD hS => ?_)
    exact zqJ11   _ _ _ hP hD hS (lv_sub hl [0, 1, 2, 3, 4] rfl)
abbrev rm_X5_mentionx4 : Room := { frames := 7, cells := 1, slots := 6, locals := 104 }
set_option maxRecDepth 100000 in
set_option maxHeartbeats 4000000 in
theorem c_X5_mentionx4 (l : Launch) (htr : l.stackTraces = false) (D : va_G) (cA : ClassId) (ad : Nat → Nat) (g : Nat → Nat → Int32) (z : Nat → Nat) (nm : Int32) (fm : Int32) (pl : Int32) (po : Int32) (hpo : po = (-1) ∨ q_r po 8) (hnm : ¬ nm < nI 0 ∧ nm ≤ nI 9) (hfm : ¬ fm < (-1) ∧ fm ≤ nI 9) (hpl : ¬ (¬ pl < nI 0 ∧ pl ≤ nI 5)) : q_CX l yX5_mention [Cond.code yX5_mention cX5_mention 6 (some .int)] rm_X5_mentionx4 D cA [.ref (ad 70), .int nm, .int fm, .int pl, .int po] (rlW cA ad g z) "java/lang/IllegalArgumentException" (rlW cA ad g z) := by
  refine q_startX RX5 (by decide +kernel) rfl (Nat.le_of_ble_eq_true rfl) ?_
  intro p e s m below meth c A args H locs ls hx hb hr hml hown hT hlk hP hK hD hA hS hl hout hX hZ
  have hl : lv_has ls 6 [(0, .ref (ad 70)), (1, .int nm), (2, .int fm), (3, .int pl), (4, .int po)] := hl
  have zqJ11 : ∀ (H : Heap) (locs : List Loc) (ls : Array Slot), va_P D vwCl (rlW cA ad g z) H → va_D A (rlW cA ad g z) → va_S A s.heap H locs → lv_has ls 6 [(0, .ref (ad 70)), (1, .int nm), (2, .int fm), (3, .int pl), (4, .int po)] → W p l e rm_X5_mentionx4 s m args below meth c H locs 0 0 (q_GX D "java/lang/IllegalArgumentException" (rlW cA ad g z) A below args s) (F0 m 11 ls []) := by
    intro   H locs ls hP hD hS hl
    refine lv_iload_n hx hb dX5_mention_11 rfl (lv_at hl 1 rfl) ?_
    refine lv_iconst (v := nI 0) hx hb dX5_mention_12 (by decide +kernel) ?_
    refine lv_bipush (v := nI 9) hx hb dX5_mention_13 (by decide +kernel) ?_
    refine q_callSV (As := [.int nm, .int (nI 0), .int (nI 9)]) hx hb hml hown hT hK hP hD hS hA (c_X5_needWithin l D cA nm (nI 0) (nI 9) hnm.1 hnm.2) k_X5_needWithin kl_X5_83 hl rfl rfl (Nat.le_of_ble_eq_true rfl) ⟨⟨rfl, rfl⟩, Nat.le_of_ble_eq_true rfl, Nat.le_of_ble_eq_true rfl⟩ ⟨Nat.zero_le _, Nat.zero_le _⟩ dX5_mention_15 (fun H locs hP hD hS => ?_)
    refine lv_iload_n hx hb dX5_mention_18 rfl (lv_at hl 2 rfl) ?_
    refine lv_iconst (v := (-1)) hx hb dX5_mention_19 (by decide +kernel) ?_
    refine lv_bipush (v := nI 9) hx hb dX5_mention_20 (by decide +kernel) ?_
    refine q_callSV (As := [.int fm, .int (-1), .int (nI 9)]) hx hb hml hown hT hK hP hD hS hA (c_X5_needWithin l D cA fm (-1) (nI 9) hfm.1 hfm.2) k_X5_needWithin kl_X5_83 hl rfl rfl (Nat.le_of_ble_eq_true rfl) ⟨⟨rfl, rfl⟩, Nat.le_of_ble_eq_true rfl, Nat.le_of_ble_eq_true rfl⟩ ⟨Nat.zero_le _, Nat.zero_le _⟩ dX5_mention_22 (fun H locs hP hD hS => ?_)
    refine lv_iload_n hx hb dX5_mention_25 rfl (lv_at hl 3 rfl) ?_
    refine lv_iconst (v := nI 0) hx hb dX5_mention_26 (by decide +kernel) ?_
    refine lv_iconst (v := nI 5) hx hb dX5_mention_27 (by decide +kernel) ?_
    exact q_callXS (As := [.int pl, .int (nI 0), .int (nI 5)]) hx hb hml hown hT hK hP hD hS hA hout hlk hX hZ (c_X5_needWithinx l htr D cA pl (nI 0) (nI 5) hpl) k_X5_needWithin kl_X5_83 hl rfl rfl (Nat.le_of_ble_eq_true rfl) ⟨⟨rfl, rfl⟩, Nat.le_of_ble_eq_true rfl, Nat.le_of_ble_eq_true rfl⟩ ⟨Nat.le_of_ble_eq_true rfl, Nat.le_of_ble_eq_true rfl⟩ dX5_mention_28
  refine lv_iload hx hb dX5_mention_0 (lv_at hl 4 rfl) ?_
  refine lv_iconst (v := (-1)) hx hb dX5_mention_2 (by decide +kernel) ?_
  refine lv_icmp_eq (tgt := 11) hx hb dX5_mention_3 (by decide) (fun c_3 => ?_) (fun c_3 => ?_)
  · exact zqJ11   _ _ _ hP hD hS (lv_sub hl [0, 1, 2, 3, 4] rfl)
  · refine lv_iload hx hb dX5_mention_6 (lv_at hl 4 rfl) ?_
    refine q_callSV (As := [.int po]) hx hb hml hown hT hK hP hD hS hA (c_X5_needPost l D cA po (hpo.resolve_left c_3)) k_X5_needPost kl_X5_80 hl rfl rfl (Nat.le_of_ble_eq_true rfl) ⟨⟨rfl, rfl⟩, Nat.le_of_ble_eq_true rfl, Nat.le_of_ble_eq_true rfl⟩ ⟨Nat.zero_le _, Nat.zero_le _⟩ dX5_mention_8 (fun H locs hP hD hS => ?_)
    exact zqJ11   _ _ _ hP hD hS (lv_sub hl [0, 1, 2, 3, 4] rfl)
abbrev rm_X5_mentionx5 : Room := { frames := 6, cells := 1, slots := 6, locals := 82 }
set_option maxRecDepth 100000 in
set_option maxHeartbeats 4000000 in
theorem c_X5_mentionx5 (l : Launch) (htr : l.stackTraces = false) (D : va_G) (cA : ClassId) (ad : Nat → Nat) (g : Nat → Nat → Int32) (z : Nat → Nat) (nm : Int32) (fm : Int32) (pl : Int32) (po : Int32) (hpo : po = (-1) ∨ q_r po 8) (hnm : ¬ nm < nI 0 ∧ nm ≤ nI 9) (hfm : ¬ fm < (-1) ∧ fm ≤ nI 9) (hpl : ¬ pl < nI 0 ∧ pl ≤ nI 5) (hz16 : 16 ≤ (z 0)) (hc : (z 0) ≤ 16) : q_CX l yX5_mention [Cond.code yX5_mention cX5_mention 6 (some .int)] rm_X5_mentionx5 D cA [.ref (ad 70), .int nm, .int fm, .int pl, .int po] (rlW cA ad g z) "java/lang/IllegalStateException" (rlW cA ad g z) := by
  refine q_startX RX5 (by decide +kernel) rfl (Nat.le_of_ble_eq_true rfl) ?_
  intro p e s m below meth c A args H locs ls hx hb hr hml hown hT hlk hP hK hD hA hS hl hout hX hZ
  have hl : lv_has ls 6 [(0, .ref (ad 70)), (1, .int nm), (2, .int fm), (3, .int pl), (4, .int po)] := hl
  have zqJ11 : ∀ (H : Heap) (locs : List Loc) (ls : Array Slot), va_P D vwCl (rlW cA ad g z) H → va_D A (rlW cA ad g z) → va_S A s.heap H locs → lv_has ls 6 [(0, .ref (ad 70)), (1, .int nm), (2, .int fm), (3, .int pl), (4, .int po)] → W p l e rm_X5_mentionx5 s m args below meth c H locs 0 0 (q_GX D "java/lang/IllegalStateException" (rlW cA ad g z) A below args s) (F0 m 11 ls []) := by
    intro   H locs ls hP hD hS hl
    refine lv_iload_n hx hb dX5_mention_11 rfl (lv_at hl 1 rfl) ?_
    refine lv_iconst (v := nI 0) hx hb dX5_mention_12 (by decide +kernel) ?_
    refine lv_bipush (v := nI 9) hx hb dX5_mention_13 (by decide +kernel) ?_
    refine q_callSV (As := [.int nm, .int (nI 0), .int (nI 9)]) hx hb hml hown hT hK hP hD hS hA (c_X5_needWithin l D cA nm (nI 0) (nI 9) hnm.1 hnm.2) k_X5_needWithin kl_X5_83 hl rfl rfl (Nat.le_of_ble_eq_true rfl) ⟨⟨rfl, rfl⟩, Nat.le_of_ble_eq_true rfl, Nat.le_of_ble_eq_true rfl⟩ ⟨Nat.zero_le _, Nat.zero_le _⟩ dX5_mention_15 (fun H locs hP hD hS => ?_)
    refine lv_iload_n hx hb dX5_mention_18 rfl (lv_at hl 2 rfl) ?_
    refine lv_iconst (v := (-1)) hx hb dX5_mention_19 (by decide +kernel) ?_
    refine lv_bipush (v := nI 9) hx hb dX5_mention_20 (by decide +kernel) ?_
    refine q_callSV (As := [.int fm, .int (-1), .int (nI 9)]) hx hb hml hown hT hK hP hD hS hA (c_X5_needWithin l D cA fm (-1) (nI 9) hfm.1 hfm.2) k_X5_needWithin kl_X5_83 hl rfl rfl (Nat.le_of_ble_eq_true rfl) ⟨⟨rfl, rfl⟩, Nat.le_of_ble_eq_true rfl, Nat.le_of_ble_eq_true rfl⟩ ⟨Nat.zero_le _, Nat.zero_le _⟩ dX5_mention_22 (fun H locs hP hD hS => ?_)
    refine lv_iload_n hx hb dX5_mention_25 rfl (lv_at hl 3 rfl) ?_
    refine lv_iconst (v := nI 0) hx hb dX5_mention_26 (by decide +kernel) ?_
    refine lv_iconst (v := nI 5) hx hb dX5_mention_27 (by decide +kernel) ?_
    refine q_callSV (As := [.int pl, .int (nI 0), .int (nI 5)]) hx hb hml hown hT hK hP hD hS hA (c_X5_needWithin l D cA pl (nI 0) (nI 5) hpl.1 hpl.2) k_X5_needWithin kl_X5_83 hl rfl rfl (Nat.le_of_ble_eq_true rfl) ⟨⟨rfl, rfl⟩, Nat.le_of_ble_eq_true rfl, Nat.le_of_ble_eq_true rfl⟩ ⟨Nat.zero_le _, Nat.zero_le _⟩ dX5_mention_28 (fun H locs hP hD hS => ?_)
    refine lv_aload_n hx hb dX5_mention_31 rfl (lv_at hl 0 rfl) ?_
    refine q_get hx hb hT hown hK hP kw_X5 0 rfl rfl 15 (by decide) kf_X5_87 rfl (v := .int (nI (z 0))) rfl dX5_mention_32 ?_
    refine lv_bipush (v := nI 16) hx hb dX5_mention_35 (by decide +kernel) ?_
    refine lv_icmp_lt (tgt := 50) hx hb dX5_mention_37 (by decide) (fun c_37 => ?_) (fun c_37 => ?_)
    · have c_37 := nI_lt1 (a := z 0) (b := 16) (by omega) (by omega) c_37
      exfalso; omega
    · have c_37 := nI_lt0 (a := z 0) (b := 16) (by omega) (by omega) c_37
      exact q_throw (text := "there are 16 mentions") hx hb htr hml hown hT hX hZ hP hS hl hout hlk kx_X5_91 ki_java_lang_IllegalStateException (by decide +kernel) q_ok_ise (by decide +kernel) dX5_mention_40 dX5_mention_43 dX5_mention_44 dX5_mention_46 dX5_mention_49 ⟨Nat.le_of_ble_eq_true rfl, Nat.le_of_ble_eq_true rfl, Nat.le_of_ble_eq_true rfl, Nat.le_of_ble_eq_true rfl⟩
  refine lv_iload hx hb dX5_mention_0 (lv_at hl 4 rfl) ?_
  refine lv_iconst (v := (-1)) hx hb dX5_mention_2 (by decide +kernel) ?_
  refine lv_icmp_eq (tgt := 11) hx hb dX5_mention_3 (by decide) (fun c_3 => ?_) (fun c_3 => ?_)
  · exact zqJ11   _ _ _ hP hD hS (lv_sub hl [0, 1, 2, 3, 4] rfl)
  · refine lv_iload hx hb dX5_mention_6 (lv_at hl 4 rfl) ?_
    refine q_callSV (As := [.int po]) hx hb hml hown hT hK hP hD hS hA (c_X5_needPost l D cA po (hpo.resolve_left c_3)) k_X5_needPost kl_X5_80 hl rfl rfl (Nat.le_of_ble_eq_true rfl) ⟨⟨rfl, rfl⟩, Nat.le_of_ble_eq_true rfl, Nat.le_of_ble_eq_true rfl⟩ ⟨Nat.zero_le _, Nat.zero_le _⟩ dX5_mention_8 (fun H locs hP hD hS => ?_)
    exact zqJ11   _ _ _ hP hD hS (lv_sub hl [0, 1, 2, 3, 4] rfl)
abbrev rm_X5_mentionx6 : Room := { frames := 7, cells := 1, slots := 6, locals := 102 }
set_option maxRecDepth 100000 in
set_option maxHeartbeats 4000000 in
theorem c_X5_mentionx6 (l : Launch) (htr : l.stackTraces = false) (D : va_G) (cA : ClassId) (ad : Nat → Nat) (g : Nat → Nat → Int32) (z : Nat → Nat) (nm : Int32) (fm : Int32) (pl : Int32) (po : Int32) (hpo : po = (-1) ∨ q_r po 8) (hnm : ¬ nm < nI 0 ∧ nm ≤ nI 9) (hfm : ¬ fm < (-1) ∧ fm ≤ nI 9) (hpl : ¬ pl < nI 0 ∧ pl ≤ nI 5) (hz16 : (z 0) < 16) (hr9 : 40 ≤ (z 2)) (hm9 : (z 2) ≤ 40) : q_CX l yX5_mention [Cond.code yX5_mention cX5_mention 6 (some .int)] rm_X5_mentionx6 D cA [.ref (ad 70), .int nm, .int fm, .int pl, .int po] (rlW cA ad g z) "java/lang/IllegalStateException" (rlW cA ad g z) := by
  refine q_startX RX5 (by decide +kernel) rfl (Nat.le_of_ble_eq_true rfl) ?_
  intro p e s m below meth c A args H locs ls hx hb hr hml hown hT hlk hP hK hD hA hS hl hout hX hZ
  have hl : lv_has ls 6 [(0, .ref (ad 70)), (1, .int nm), (2, .int fm), (3, .int pl), (4, .int po)] := hl
  have zqJ11 : ∀ (H : Heap) (locs : List Loc) (ls : Array Slot), va_P D vwCl (rlW cA ad g z) H → va_D A (rlW cA ad g z) → va_S A s.heap H locs → lv_has ls 6 [(0, .ref (ad 70)), (1, .int nm), (2, .int fm), (3, .int pl), (4, .int po)] → W p l e rm_X5_mentionx6 s m args below meth c H locs 0 0 (q_GX D "java/lang/IllegalStateException" (rlW cA ad g z) A below args s) (F0 m 11 ls []) := by
    intro   H locs ls hP hD hS hl
    refine lv_iload_n hx hb dX5_mention_11 rfl (lv_at hl 1 rfl) ?_
    refine lv_iconst (v := nI 0) hx hb dX5_mention_12 (by decide +kernel) ?_
    refine lv_bipush (v := nI 9) hx hb dX5_mention_13 (by decide +kernel) ?_
    refine q_callSV (As := [.int nm, .int (nI 0), .int (nI 9)]) hx hb hml hown hT hK hP hD hS hA (c_X5_needWithin l D cA nm (nI 0) (nI 9) hnm.1 hnm.2) k_X5_needWithin kl_X5_83 hl rfl rfl (Nat.le_of_ble_eq_true rfl) ⟨⟨rfl, rfl⟩, Nat.le_of_ble_eq_true rfl, Nat.le_of_ble_eq_true rfl⟩ ⟨Nat.zero_le _, Nat.zero_le _⟩ dX5_mention_15 (fun H locs hP hD hS => ?_)
    refine lv_iload_n hx hb dX5_mention_18 rfl (lv_at hl 2 rfl) ?_
    refine lv_iconst (v := (-1)) hx hb dX5_mention_19 (by decide +kernel) ?_
    refine lv_bipush (v := nI 9) hx hb dX5_mention_20 (by decide +kernel) ?_
    refine q_callSV (As := [.int fm, .int (-1), .int (nI 9)]) hx hb hml hown hT hK hP hD hS hA (c_X5_needWithin l D cA fm (-1) (nI 9) hfm.1 hfm.2) k_X5_needWithin kl_X5_83 hl rfl rfl (Nat.le_of_ble_eq_true rfl) ⟨⟨rfl, rfl⟩, Nat.le_of_ble_eq_true rfl, Nat.le_of_ble_eq_true rfl⟩ ⟨Nat.zero_le _, Nat.zero_le _⟩ dX5_mention_22 (fun H locs hP hD hS => ?_)
    refine lv_iload_n hx hb dX5_mention_25 rfl (lv_at hl 3 rfl) ?_
    refine lv_iconst (v := nI 0) hx hb dX5_mention_26 (by decide +kernel) ?_
    refine lv_iconst (v := nI 5) hx hb dX5_mention_27 (by decide +kernel) ?_
    refine q_callSV (As := [.int pl, .int (nI 0), .int (nI 5)]) hx hb hml hown hT hK hP hD hS hA (c_X5_needWithin l D cA pl (nI 0) (nI 5) hpl.1 hpl.2) k_X5_needWithin kl_X5_83 hl rfl rfl (Nat.le_of_ble_eq_true rfl) ⟨⟨rfl, rfl⟩, Nat.le_of_ble_eq_true rfl, Nat.le_of_ble_eq_true rfl⟩ ⟨Nat.zero_le _, Nat.zero_le _⟩ dX5_mention_28 (fun H locs hP hD hS => ?_)
    refine lv_aload_n hx hb dX5_mention_31 rfl (lv_at hl 0 rfl) ?_
    refine q_get hx hb hT hown hK hP kw_X5 0 rfl rfl 15 (by decide) kf_X5_87 rfl (v := .int (nI (z 0))) rfl dX5_mention_32 ?_
    refine lv_bipush (v := nI 16) hx hb dX5_mention_35 (by decide +kernel) ?_
    refine lv_icmp_lt (tgt := 50) hx hb dX5_mention_37 (by decide) (fun c_37 => ?_) (fun c_37 => ?_)
    · have c_37 := nI_lt1 (a := z 0) (b := 16) (by omega) (by omega) c_37
      refine lv_aload_n hx hb dX5_mention_50 rfl (lv_at hl 0 rfl) ?_
      exact q_callXW (As := []) hx hb hml hown hT hK hP hD hS hA hout hlk hX hZ (c_X5_needRoomForPersonx l htr D cA ad g z (show 40 ≤ (z 2) by omega) (show (z 2) ≤ 40 by omega)) k_X5_needRoomForPerson kl_X5_98 (q0 := 0) rfl rfl rfl hl rfl rfl (Nat.le_of_ble_eq_true rfl) ⟨⟨rfl, rfl⟩, Nat.le_of_ble_eq_true rfl, Nat.le_of_ble_eq_true rfl⟩ ⟨Nat.le_of_ble_eq_true rfl, Nat.le_of_ble_eq_true rfl⟩ dX5_mention_51
    · have c_37 := nI_lt0 (a := z 0) (b := 16) (by omega) (by omega) c_37
      exfalso; omega
  refine lv_iload hx hb dX5_mention_0 (lv_at hl 4 rfl) ?_
  refine lv_iconst (v := (-1)) hx hb dX5_mention_2 (by decide +kernel) ?_
  refine lv_icmp_eq (tgt := 11) hx hb dX5_mention_3 (by decide) (fun c_3 => ?_) (fun c_3 => ?_)
  · exact zqJ11   _ _ _ hP hD hS (lv_sub hl [0, 1, 2, 3, 4] rfl)
  · refine lv_iload hx hb dX5_mention_6 (lv_at hl 4 rfl) ?_
    refine q_callSV (As := [.int po]) hx hb hml hown hT hK hP hD hS hA (c_X5_needPost l D cA po (hpo.resolve_left c_3)) k_X5_needPost kl_X5_80 hl rfl rfl (Nat.le_of_ble_eq_true rfl) ⟨⟨rfl, rfl⟩, Nat.le_of_ble_eq_true rfl, Nat.le_of_ble_eq_true rfl⟩ ⟨Nat.zero_le _, Nat.zero_le _⟩ dX5_mention_8 (fun H locs hP hD hS => ?_)
    exact zqJ11   _ _ _ hP hD hS (lv_sub hl [0, 1, 2, 3, 4] rfl)
abbrev rm_X5_rank : Room := { frames := 1, cells := 0, slots := 0, locals := 22 }
set_option maxRecDepth 100000 in
set_option maxHeartbeats 4000000 in
theorem c_X5_rank (l : Launch) (D : va_G) (cA : ClassId) (ad : Nat → Nat) (g : Nat → Nat → Int32) (z : Nat → Nat) (i : Nat) (rk : Int32) (hi : i < 8) (hrk : ¬ rk < nI 0 ∧ rk ≤ nI 9) : q_CI l yX5_rank [Cond.code yX5_rank cX5_rank 4 (some .int)] rm_X5_rank D cA [.ref (ad 70), .int (nI i), .int rk] (rlW cA ad g z) ((g 5) i) (rlW cA ad (gs g 5 (upd (g 5) i rk)) z) := by
  refine q_startI RX5 (by decide +kernel) rfl (Nat.le_of_ble_eq_true rfl) ?_
  intro p e s m below meth c A args H locs ls hx hb hr hml hown hT hlk hP hK hD hA hS hl
  have hl : lv_has ls 4 [(0, .ref (ad 70)), (1, .int (nI i)), (2, .int rk)] := hl
  refine lv_iload_n hx hb dX5_rank_0 rfl (lv_at hl 1 rfl) ?_
  refine q_callSV (As := [.int (nI i)]) hx hb hml hown hT hK hP hD hS hA (c_X5_needPost l D cA (nI i) (q_r_nI (by omega))) k_X5_needPost kl_X5_80 hl rfl rfl (Nat.le_of_ble_eq_true rfl) ⟨⟨rfl, rfl⟩, Nat.le_of_ble_eq_true rfl, Nat.le_of_ble_eq_true rfl⟩ ⟨Nat.zero_le _, Nat.zero_le _⟩ dX5_rank_1 (fun H locs hP hD hS => ?_)
  refine lv_iload_n hx hb dX5_rank_4 rfl (lv_at hl 2 rfl) ?_
  refine lv_iconst (v := nI 0) hx hb dX5_rank_5 (by decide +kernel) ?_
  refine lv_bipush (v := nI 9) hx hb dX5_rank_6 (by decide +kernel) ?_
  refine q_callSV (As := [.int rk, .int (nI 0), .int (nI 9)]) hx hb hml hown hT hK hP hD hS hA (c_X5_needWithin l D cA rk (nI 0) (nI 9) hrk.1 hrk.2) k_X5_needWithin kl_X5_83 hl rfl rfl (Nat.le_of_ble_eq_true rfl) ⟨⟨rfl, rfl⟩, Nat.le_of_ble_eq_true rfl, Nat.le_of_ble_eq_true rfl⟩ ⟨Nat.zero_le _, Nat.zero_le _⟩ dX5_rank_8 (fun H locs hP hD hS => ?_)
  refine lv_aload_n hx hb dX5_rank_11 rfl (lv_at hl 0 rfl) ?_
  refine q_get hx hb hT hown hK hP kw_X5 0 rfl rfl 5 (by decide) kf_X5_30 rfl (v := .ref (ad 5)) rfl dX5_rank_12 ?_
  refine lv_iload_n hx hb dX5_rank_15 rfl (lv_at hl 1 rfl) ?_
  refine q_callI (As := [.int (nI i)]) (r := g 5 i) (wc := rowW cA (ad 5) (ad 35) 8 (g 5)) (w1 := rowW cA (ad 5) (ad 35) 8 (g 5)) (ws1 := rlW cA ad g z) hx hb hml hown hT hK hP hD hS hA (c_X3_atN l D cA (ad 5) (ad 35) 8 (g 5) i (by omega) (by omega)) k_X3_at kl_X5_105 (q0 := 0) rfl rfl rfl [11, 12] rfl rfl rfl rfl hl rfl rfl (Nat.le_of_ble_eq_true rfl) ⟨⟨rfl, rfl⟩, Nat.le_of_ble_eq_true rfl, Nat.le_of_ble_eq_true rfl⟩ ⟨Nat.zero_le _, Nat.zero_le _⟩ dX5_rank_16 (fun H locs hP hD hS => ?_)
  refine lv_istore_n (lv' := [(3, .int (g 5 i)), (0, .ref (ad 70)), (1, .int (nI i)), (2, .int rk)]) hx hb dX5_rank_19 rfl hl (by decide) rfl (fun ls hl => ?_)
  refine lv_aload_n hx hb dX5_rank_20 rfl (lv_at hl 1 rfl) ?_
  refine q_get hx hb hT hown hK hP kw_X5 0 rfl rfl 5 (by decide) kf_X5_30 rfl (v := .ref (ad 5)) rfl dX5_rank_21 ?_
  refine lv_iload_n hx hb dX5_rank_24 rfl (lv_at hl 2 rfl) ?_
  refine lv_iload_n hx hb dX5_rank_25 rfl (lv_at hl 3 rfl) ?_
  refine q_callV (As := [.int (nI i), .int rk]) (wc := rowW cA (ad 5) (ad 35) 8 (g 5)) (w1 := rowW cA (ad 5) (ad 35) 8 (upd (g 5) i rk)) (ws1 := rlW cA ad (gs g 5 (upd (g 5) i rk)) z) hx hb hml hown hT hK hP hD hS hA (c_X3_putN l D cA (ad 5) (ad 35) 8 (g 5) i rk (by omega) (by omega)) k_X3_put kl_X5_76 (q0 := 0) rfl rfl rfl [11, 12] rfl rfl rfl rfl hl rfl rfl (Nat.le_of_ble_eq_true rfl) ⟨⟨rfl, rfl⟩, Nat.le_of_ble_eq_true rfl, Nat.le_of_ble_eq_true rfl⟩ ⟨Nat.zero_le _, Nat.zero_le _⟩ dX5_rank_26 (fun H locs hP hD hS => ?_)
  obtain ⟨nF26_5, enF26_5⟩ : ∃ y : Nat → Int32, y = upd (g 5) i rk := ⟨_, rfl⟩
  have hP : va_P D vwCl (rlW cA ad (gs g 5 nF26_5) z) H := by rw [enF26_5]; exact hP
  have hD : va_D A (rlW cA ad (gs g 5 nF26_5) z) := by rw [enF26_5]; exact hD
  refine lv_iload_n hx hb dX5_rank_29 rfl (lv_at hl 0 rfl) ?_
  rw [enF26_5] at hP hD
  exact q_iret hx hb hr hlk (by rfl) hP hS dX5_rank_30
abbrev rm_X5_rankx : Room := { frames := 7, cells := 1, slots := 6, locals := 102 }
set_option maxRecDepth 100000 in
set_option maxHeartbeats 4000000 in
theorem c_X5_rankx (l : Launch) (htr : l.stackTraces = false) (D : va_G) (cA : ClassId) (ad : Nat → Nat) (g : Nat → Nat → Int32) (z : Nat → Nat) (w : Int32) (rk : Int32) (hw : ¬ q_r w 8) : q_CX l yX5_rank [Cond.code yX5_rank cX5_rank 4 (some .int)] rm_X5_rankx D cA [.ref (ad 70), .int w, .int rk] (rlW cA ad g z) "java/lang/IndexOutOfBoundsException" (rlW cA ad g z) := by
  refine q_startX RX5 (by decide +kernel) rfl (Nat.le_of_ble_eq_true rfl) ?_
  intro p e s m below meth c A args H locs ls hx hb hr hml hown hT hlk hP hK hD hA hS hl hout hX hZ
  have hl : lv_has ls 4 [(0, .ref (ad 70)), (1, .int w), (2, .int rk)] := hl
  refine lv_iload_n hx hb dX5_rank_0 rfl (lv_at hl 1 rfl) ?_
  exact q_callXS (As := [.int w]) hx hb hml hown hT hK hP hD hS hA hout hlk hX hZ (c_X5_needPostx l htr D cA w hw) k_X5_needPost kl_X5_80 hl rfl rfl (Nat.le_of_ble_eq_true rfl) ⟨⟨rfl, rfl⟩, Nat.le_of_ble_eq_true rfl, Nat.le_of_ble_eq_true rfl⟩ ⟨Nat.le_of_ble_eq_true rfl, Nat.le_of_ble_eq_true rfl⟩ dX5_rank_1
abbrev rm_X5_rankx2 : Room := { frames := 7, cells := 1, slots := 6, locals := 104 }
set_option maxRecDepth 100000 in
set_option maxHeartbeats 4000000 in
theorem c_X5_rankx2 (l : Launch) (htr : l.stackTraces = false) (D : va_G) (cA : ClassId) (ad : Nat → Nat) (g : Nat → Nat → Int32) (z : Nat → Nat) (w : Int32) (rk : Int32) (hw : q_r w 8) (hrk : ¬ (¬ rk < nI 0 ∧ rk ≤ nI 9)) : q_CX l yX5_rank [Cond.code yX5_rank cX5_rank 4 (some .int)] rm_X5_rankx2 D cA [.ref (ad 70), .int w, .int rk] (rlW cA ad g z) "java/lang/IllegalArgumentException" (rlW cA ad g z) := by
  refine q_startX RX5 (by decide +kernel) rfl (Nat.le_of_ble_eq_true rfl) ?_
  intro p e s m below meth c A args H locs ls hx hb hr hml hown hT hlk hP hK hD hA hS hl hout hX hZ
  have hl : lv_has ls 4 [(0, .ref (ad 70)), (1, .int w), (2, .int rk)] := hl
  refine lv_iload_n hx hb dX5_rank_0 rfl (lv_at hl 1 rfl) ?_
  refine q_callSV (As := [.int w]) hx hb hml hown hT hK hP hD hS hA (c_X5_needPost l D cA w hw) k_X5_needPost kl_X5_80 hl rfl rfl (Nat.le_of_ble_eq_true rfl) ⟨⟨rfl, rfl⟩, Nat.le_of_ble_eq_true rfl, Nat.le_of_ble_eq_true rfl⟩ ⟨Nat.zero_le _, Nat.zero_le _⟩ dX5_rank_1 (fun H locs hP hD hS => ?_)
  refine lv_iload_n hx hb dX5_rank_4 rfl (lv_at hl 2 rfl) ?_
  refine lv_iconst (v := nI 0) hx hb dX5_rank_5 (by decide +kernel) ?_
  refine lv_bipush (v := nI 9) hx hb dX5_rank_6 (by decide +kernel) ?_
  exact q_callXS (As := [.int rk, .int (nI 0), .int (nI 9)]) hx hb hml hown hT hK hP hD hS hA hout hlk hX hZ (c_X5_needWithinx l htr D cA rk (nI 0) (nI 9) hrk) k_X5_needWithin kl_X5_83 hl rfl rfl (Nat.le_of_ble_eq_true rfl) ⟨⟨rfl, rfl⟩, Nat.le_of_ble_eq_true rfl, Nat.le_of_ble_eq_true rfl⟩ ⟨Nat.le_of_ble_eq_true rfl, Nat.le_of_ble_eq_true rfl⟩ dX5_rank_8
abbrev rm_X5_bar : Room := { frames := 3, cells := 0, slots := 0, locals := 70 }
set_option maxRecDepth 100000 in
set_option maxHeartbeats 4000000 in
theorem c_X5_bar (l : Launch) (D : va_G) (cA : ClassId) (ad : Nat → Nat) (g : Nat → Nat → Int32) (z : Nat → Nat) (i : Nat) (j : Nat) (is : Bool) (hi : i < 8) (hj : j < 8) (hne : ¬ i = j) : q_CI l yX5_bar [Cond.code yX5_bar cX5_bar 4 (some .boolean)] rm_X5_bar D cA [.ref (ad 70), .int (nI i), .int (nI j), .int (q_b is)] (rlW cA ad g z) (q_b (hasB ((g 8) i) (nI j))) (rlW cA ad (gs g 8 (tellF is (g 8) i j)) z) := by
  refine q_startI RX5 (by decide +kernel) rfl (Nat.le_of_ble_eq_true rfl) ?_
  intro p e s m below meth c A args H locs ls hx hb hr hml hown hT hlk hP hK hD hA hS hl
  have hl : lv_has ls 4 [(0, .ref (ad 70)), (1, .int (nI i)), (2, .int (nI j)), (3, .int (q_b is))] := hl
  refine lv_iload_n hx hb dX5_bar_0 rfl (lv_at hl 1 rfl) ?_
  refine q_callSV (As := [.int (nI i)]) hx hb hml hown hT hK hP hD hS hA (c_X5_needPost l D cA (nI i) (q_r_nI (by omega))) k_X5_needPost kl_X5_80 hl rfl rfl (Nat.le_of_ble_eq_true rfl) ⟨⟨rfl, rfl⟩, Nat.le_of_ble_eq_true rfl, Nat.le_of_ble_eq_true rfl⟩ ⟨Nat.zero_le _, Nat.zero_le _⟩ dX5_bar_1 (fun H locs hP hD hS => ?_)
  refine lv_iload_n hx hb dX5_bar_4 rfl (lv_at hl 2 rfl) ?_
  refine q_callSV (As := [.int (nI j)]) hx hb hml hown hT hK hP hD hS hA (c_X5_needPost l D cA (nI j) (q_r_nI (by omega))) k_X5_needPost kl_X5_80 hl rfl rfl (Nat.le_of_ble_eq_true rfl) ⟨⟨rfl, rfl⟩, Nat.le_of_ble_eq_true rfl, Nat.le_of_ble_eq_true rfl⟩ ⟨Nat.zero_le _, Nat.zero_le _⟩ dX5_bar_5 (fun H locs hP hD hS => ?_)
  refine lv_iload_n hx hb dX5_bar_8 rfl (lv_at hl 1 rfl) ?_
  refine lv_iload_n hx hb dX5_bar_9 rfl (lv_at hl 2 rfl) ?_
  refine q_callSV (As := [.int (nI i), .int (nI j)]) hx hb hml hown hT hK hP hD hS hA (c_X5_needUnlike l D cA (nI i) (nI j) (fun h => by have := nI_eq1 (by omega) (by omega) h; omega)) k_X5_needUnlike kl_X5_108 hl rfl rfl (Nat.le_of_ble_eq_true rfl) ⟨⟨rfl, rfl⟩, Nat.le_of_ble_eq_true rfl, Nat.le_of_ble_eq_true rfl⟩ ⟨Nat.zero_le _, Nat.zero_le _⟩ dX5_bar_10 (fun H locs hP hD hS => ?_)
  refine lv_aload_n hx hb dX5_bar_13 rfl (lv_at hl 0 rfl) ?_
  refine q_get hx hb hT hown hK hP kw_X5 0 rfl rfl 6 (by decide) kf_X5_36 rfl (v := .ref (ad 60)) rfl dX5_bar_14 ?_
  refine lv_iload_n hx hb dX5_bar_17 rfl (lv_at hl 1 rfl) ?_
  refine lv_iload_n hx hb dX5_bar_18 rfl (lv_at hl 2 rfl) ?_
  refine lv_iload_n hx hb dX5_bar_19 rfl (lv_at hl 3 rfl) ?_
  refine q_callI (As := [.int (nI i), .int (nI j), .int (q_b is)]) (r := q_b (hasB (g 8 i) (nI j))) (wc := prW cA (ad 60) (ad 8) (ad 38) 8 (g 8)) (w1 := prW cA (ad 60) (ad 8) (ad 38) 8 (tellF is (g 8) i j)) (ws1 := rlW cA ad (gs g 8 (tellF is (g 8) i j)) z) hx hb hml hown hT hK hP hD hS hA (c_X1_tell l D cA (ad 60) (ad 8) (ad 38) 8 (g 8) i j is (by omega) (by omega) (by omega)) k_X1_tell kl_X5_111 (q0 := 0) rfl rfl rfl [17, 18, 19] rfl rfl rfl rfl hl rfl rfl (Nat.le_of_ble_eq_true rfl) ⟨⟨rfl, rfl⟩, Nat.le_of_ble_eq_true rfl, Nat.le_of_ble_eq_true rfl⟩ ⟨Nat.zero_le _, Nat.zero_le _⟩ dX5_bar_20 (fun H locs hP hD hS => ?_)
  obtain ⟨nF20_8, enF20_8⟩ : ∃ y : Nat → Int32, y = tellF is (g 8) i j := ⟨_, rfl⟩
  have hP : va_P D vwCl (rlW cA ad (gs g 8 nF20_8) z) H := by rw [enF20_8]; exact hP
  have hD : va_D A (rlW cA ad (gs g 8 nF20_8) z) := by rw [enF20_8]; exact hD
  rw [enF20_8] at hP hD
  exact q_zret hx hb hr hlk (q_b_or _) (by rfl) hP hS dX5_bar_23
abbrev rm_X5_barx : Room := { frames := 7, cells := 1, slots := 6, locals := 102 }
set_option maxRecDepth 100000 in
set_option maxHeartbeats 4000000 in
theorem c_X5_barx (l : Launch) (htr : l.stackTraces = false) (D : va_G) (cA : ClassId) (ad : Nat → Nat) (g : Nat → Nat → Int32) (z : Nat → Nat) (x : Int32) (y : Int32) (is : Bool) (hx9 : ¬ q_r x 8) : q_CX l yX5_bar [Cond.code yX5_bar cX5_bar 4 (some .boolean)] rm_X5_barx D cA [.ref (ad 70), .int x, .int y, .int (q_b is)] (rlW cA ad g z) "java/lang/IndexOutOfBoundsException" (rlW cA ad g z) := by
  refine q_startX RX5 (by decide +kernel) rfl (Nat.le_of_ble_eq_true rfl) ?_
  intro p e s m below meth c A args H locs ls hx hb hr hml hown hT hlk hP hK hD hA hS hl hout hX hZ
  have hl : lv_has ls 4 [(0, .ref (ad 70)), (1, .int x), (2, .int y), (3, .int (q_b is))] := hl
  refine lv_iload_n hx hb dX5_bar_0 rfl (lv_at hl 1 rfl) ?_
  exact q_callXS (As := [.int x]) hx hb hml hown hT hK hP hD hS hA hout hlk hX hZ (c_X5_needPostx l htr D cA x hx9) k_X5_needPost kl_X5_80 hl rfl rfl (Nat.le_of_ble_eq_true rfl) ⟨⟨rfl, rfl⟩, Nat.le_of_ble_eq_true rfl, Nat.le_of_ble_eq_true rfl⟩ ⟨Nat.le_of_ble_eq_true rfl, Nat.le_of_ble_eq_true rfl⟩ dX5_bar_1
abbrev rm_X5_barx2 : Room := { frames := 7, cells := 1, slots := 6, locals := 102 }
set_option maxRecDepth 100000 in
set_option maxHeartbeats 4000000 in
theorem c_X5_barx2 (l : Launch) (htr : l.stackTraces = false) (D : va_G) (cA : ClassId) (ad : Nat → Nat) (g : Nat → Nat → Int32) (z : Nat → Nat) (x : Int32) (y : Int32) (is : Bool) (hx9 : q_r x 8) (hy9 : ¬ q_r y 8) : q_CX l yX5_bar [Cond.code yX5_bar cX5_bar 4 (some .boolean)] rm_X5_barx2 D cA [.ref (ad 70), .int x, .int y, .int (q_b is)] (rlW cA ad g z) "java/lang/IndexOutOfBoundsException" (rlW cA ad g z) := by
  refine q_startX RX5 (by decide +kernel) rfl (Nat.le_of_ble_eq_true rfl) ?_
  intro p e s m below meth c A args H locs ls hx hb hr hml hown hT hlk hP hK hD hA hS hl hout hX hZ
  have hl : lv_has ls 4 [(0, .ref (ad 70)), (1, .int x), (2, .int y), (3, .int (q_b is))] := hl
  refine lv_iload_n hx hb dX5_bar_0 rfl (lv_at hl 1 rfl) ?_
  refine q_callSV (As := [.int x]) hx hb hml hown hT hK hP hD hS hA (c_X5_needPost l D cA x hx9) k_X5_needPost kl_X5_80 hl rfl rfl (Nat.le_of_ble_eq_true rfl) ⟨⟨rfl, rfl⟩, Nat.le_of_ble_eq_true rfl, Nat.le_of_ble_eq_true rfl⟩ ⟨Nat.zero_le _, Nat.zero_le _⟩ dX5_bar_1 (fun H locs hP hD hS => ?_)
  refine lv_iload_n hx hb dX5_bar_4 rfl (lv_at hl 2 rfl) ?_
  exact q_callXS (As := [.int y]) hx hb hml hown hT hK hP hD hS hA hout hlk hX hZ (c_X5_needPostx l htr D cA y hy9) k_X5_needPost kl_X5_80 hl rfl rfl (Nat.le_of_ble_eq_true rfl) ⟨⟨rfl, rfl⟩, Nat.le_of_ble_eq_true rfl, Nat.le_of_ble_eq_true rfl⟩ ⟨Nat.le_of_ble_eq_true rfl, Nat.le_of_ble_eq_true rfl⟩ dX5_bar_5
abbrev rm_X5_barx3 : Room := { frames := 7, cells := 1, slots := 6, locals := 103 }
set_option maxRecDepth 100000 in
set_option maxHeartbeats 4000000 in
theorem c_X5_barx3 (l : Launch) (htr : l.stackTraces = false) (D : va_G) (cA : ClassId) (ad : Nat → Nat) (g : Nat → Nat → Int32) (z : Nat → Nat) (x : Int32) (y : Int32) (is : Bool) (hx9 : q_r x 8) (hy9 : q_r y 8) (hne : x = y) : q_CX l yX5_bar [Cond.code yX5_bar cX5_bar 4 (some .boolean)] rm_X5_barx3 D cA [.ref (ad 70), .int x, .int y, .int (q_b is)] (rlW cA ad g z) "java/lang/IllegalArgumentException" (rlW cA ad g z) := by
  refine q_startX RX5 (by decide +kernel) rfl (Nat.le_of_ble_eq_true rfl) ?_
  intro p e s m below meth c A args H locs ls hx hb hr hml hown hT hlk hP hK hD hA hS hl hout hX hZ
  have hl : lv_has ls 4 [(0, .ref (ad 70)), (1, .int x), (2, .int y), (3, .int (q_b is))] := hl
  refine lv_iload_n hx hb dX5_bar_0 rfl (lv_at hl 1 rfl) ?_
  refine q_callSV (As := [.int x]) hx hb hml hown hT hK hP hD hS hA (c_X5_needPost l D cA x hx9) k_X5_needPost kl_X5_80 hl rfl rfl (Nat.le_of_ble_eq_true rfl) ⟨⟨rfl, rfl⟩, Nat.le_of_ble_eq_true rfl, Nat.le_of_ble_eq_true rfl⟩ ⟨Nat.zero_le _, Nat.zero_le _⟩ dX5_bar_1 (fun H locs hP hD hS => ?_)
  refine lv_iload_n hx hb dX5_bar_4 rfl (lv_at hl 2 rfl) ?_
  refine q_callSV (As := [.int y]) hx hb hml hown hT hK hP hD hS hA (c_X5_needPost l D cA y hy9) k_X5_needPost kl_X5_80 hl rfl rfl (Nat.le_of_ble_eq_true rfl) ⟨⟨rfl, rfl⟩, Nat.le_of_ble_eq_true rfl, Nat.le_of_ble_eq_true rfl⟩ ⟨Nat.zero_le _, Nat.zero_le _⟩ dX5_bar_5 (fun H locs hP hD hS => ?_)
  refine lv_iload_n hx hb dX5_bar_8 rfl (lv_at hl 1 rfl) ?_
  refine lv_iload_n hx hb dX5_bar_9 rfl (lv_at hl 2 rfl) ?_
  exact q_callXS (As := [.int x, .int y]) hx hb hml hown hT hK hP hD hS hA hout hlk hX hZ (c_X5_needUnlikex l htr D cA x y hne) k_X5_needUnlike kl_X5_108 hl rfl rfl (Nat.le_of_ble_eq_true rfl) ⟨⟨rfl, rfl⟩, Nat.le_of_ble_eq_true rfl, Nat.le_of_ble_eq_true rfl⟩ ⟨Nat.le_of_ble_eq_true rfl, Nat.le_of_ble_eq_true rfl⟩ dX5_bar_10
abbrev rm_X5_ahead : Room := { frames := 5, cells := 0, slots := 0, locals := 113 }
set_option maxRecDepth 100000 in
set_option maxHeartbeats 4000000 in
theorem c_X5_ahead (l : Launch) (D : va_G) (cA : ClassId) (ad : Nat → Nat) (g : Nat → Nat → Int32) (z : Nat → Nat) (i : Nat) (j : Nat) (w : Int32) (hi : i < (z 0)) (hj : j < (z 0)) (hc : (z 0) ≤ 16) (hne : ¬ i = j) (hw9 : ¬ w < (-50) ∧ w ≤ nI 50) (hE : ∀ k, k < (z 1) → q_r ((g 14) k) 16 ∧ q_r ((g 15) k) 16) (ht : (z 1) < 40) (hd9 : dOK (upd (g 14) (z 1) (nI i)) (upd (g 15) (z 1) (nI j)) (upd (g 16) (z 1) w) (g 12) (g 13) ((z 1) + 1) = true) : q_CI l yX5_ahead [Cond.code yX5_ahead cX5_ahead 5 (some .int)] rm_X5_ahead D cA [.ref (ad 70), .int (nI i), .int (nI j), .int w] (rlW cA ad g z) (vd (dOK (upd (g 14) (z 1) (nI i)) (upd (g 15) (z 1) (nI j)) (upd (g 16) (z 1) w) (g 12) (g 13) ((z 1) + 1)) (dMV (upd (g 14) (z 1) (nI i)) (upd (g 15) (z 1) (nI j)) (upd (g 16) (z 1) w) (g 12) (g 13) (g 17) (g 18) ((z 1) + 1))) (rlW cA ad (gs (gs (gs (gs (gs (gs (gs g 14 (upd (g 14) (z 1) (nI i))) 15 (upd (g 15) (z 1) (nI j))) 16 (upd (g 16) (z 1) w)) 17 (bif dOK (upd (g 14) (z 1) (nI i)) (upd (g 15) (z 1) (nI j)) (upd (g 16) (z 1) w) (g 12) (g 13) ((z 1) + 1) then itF (upd (g 14) (z 1) (nI i)) (upd (g 15) (z 1) (nI j)) (upd (g 16) (z 1) w) (g 12) ((z 1) + 1) 16 else (g 17))) 18 (bif dOK (upd (g 14) (z 1) (nI i)) (upd (g 15) (z 1) (nI j)) (upd (g 16) (z 1) w) (g 12) (g 13) ((z 1) + 1) then itL (upd (g 14) (z 1) (nI i)) (upd (g 15) (z 1) (nI j)) (upd (g 16) (z 1) w) (g 13) ((z 1) + 1) 16 else (g 18))) 19 (itF (upd (g 14) (z 1) (nI i)) (upd (g 15) (z 1) (nI j)) (upd (g 16) (z 1) w) (g 12) ((z 1) + 1) 16)) 20 (itL (upd (g 14) (z 1) (nI i)) (upd (g 15) (z 1) (nI j)) (upd (g 16) (z 1) w) (g 13) ((z 1) + 1) 16)) (zs z 1 (bif dOK (upd (g 14) (z 1) (nI i)) (upd (g 15) (z 1) (nI j)) (upd (g 16) (z 1) w) (g 12) (g 13) ((z 1) + 1) then (z 1) + 1 else (z 1)))) := by
  refine q_startI RX5 (by decide +kernel) rfl (Nat.le_of_ble_eq_true rfl) ?_
  intro p e s m below meth c A args H locs ls hx hb hr hml hown hT hlk hP hK hD hA hS hl
  have hl : lv_has ls 5 [(0, .ref (ad 70)), (1, .int (nI i)), (2, .int (nI j)), (3, .int w)] := hl
  refine lv_aload_n hx hb dX5_ahead_0 rfl (lv_at hl 0 rfl) ?_
  refine lv_iload_n hx hb dX5_ahead_1 rfl (lv_at hl 1 rfl) ?_
  refine lv_iload_n hx hb dX5_ahead_2 rfl (lv_at hl 2 rfl) ?_
  refine q_callVW (As := [.int (nI i), .int (nI j)]) (w1 := rlW cA ad g z) hx hb hml hown hT hK hP hD hS hA (c_X5_needTwoMentions l D cA ad g z (nI i) (nI j) (q_r_nI (by omega)) (q_r_nI (by omega)) (fun h => by have := nI_eq1 (by omega) (by omega) h; omega) (show (z 0) ≤ 16 by omega)) k_X5_needTwoMentions kl_X5_115 (q0 := 0) rfl rfl rfl ((rlW_adr _ _ _ _).trans (rlW_adr _ _ _ _).symm) hl rfl rfl (Nat.le_of_ble_eq_true rfl) ⟨⟨rfl, rfl⟩, Nat.le_of_ble_eq_true rfl, Nat.le_of_ble_eq_true rfl⟩ ⟨Nat.zero_le _, Nat.zero_le _⟩ dX5_ahead_3 (fun H locs hP hD hS => ?_)
  refine lv_iload_n hx hb dX5_ahead_6 rfl (lv_at hl 3 rfl) ?_
  refine lv_bipush (v := (-50)) hx hb dX5_ahead_7 (by decide +kernel) ?_
  refine lv_bipush (v := nI 50) hx hb dX5_ahead_9 (by decide +kernel) ?_
  refine q_callSV (As := [.int w, .int (-50), .int (nI 50)]) hx hb hml hown hT hK hP hD hS hA (c_X5_needWithin l D cA w (-50) (nI 50) hw9.1 hw9.2) k_X5_needWithin kl_X5_83 hl rfl rfl (Nat.le_of_ble_eq_true rfl) ⟨⟨rfl, rfl⟩, Nat.le_of_ble_eq_true rfl, Nat.le_of_ble_eq_true rfl⟩ ⟨Nat.zero_le _, Nat.zero_le _⟩ dX5_ahead_11 (fun H locs hP hD hS => ?_)
  refine lv_aload_n hx hb dX5_ahead_14 rfl (lv_at hl 0 rfl) ?_
  refine q_get hx hb hT hown hK hP kw_X5 0 rfl rfl 10 (by decide) kf_X5_52 rfl (v := .ref (ad 71)) rfl dX5_ahead_15 ?_
  refine q_callIS (As := []) (r := q_b (decide (40 ≤ (z 1)))) (wc := yrW cA ad g z) (w1 := yrW cA ad g z) (ws1 := rlW cA ad g z) hx hb hml hown hT hK hP hD hS hA (c_X4_isFullyTold l D cA ad g z (show (z 1) ≤ 40 by omega)) k_X4_isFullyTold kl_X5_118 (q0 := 0) rfl rfl rfl (rl_a cA ad g z) (psW cA ad g z ++ gpW cA ad g z) rfl (rl_y rfl rfl rfl) ((yrW_adr _ _ _ _).trans (yrW_adr _ _ _ _).symm) hl rfl rfl (Nat.le_of_ble_eq_true rfl) ⟨⟨rfl, rfl⟩, Nat.le_of_ble_eq_true rfl, Nat.le_of_ble_eq_true rfl⟩ ⟨Nat.zero_le _, Nat.zero_le _⟩ dX5_ahead_18 (fun H locs hP hD hS => ?_)
  refine lv_if_eq (tgt := 34) hx hb dX5_ahead_21 (by decide) (fun c_21 => ?_) (fun c_21 => ?_)
  · have c_21 := q_b0e c_21
    refine lv_aload_n hx hb dX5_ahead_34 rfl (lv_at hl 0 rfl) ?_
    refine q_get hx hb hT hown hK hP kw_X5 0 rfl rfl 10 (by decide) kf_X5_52 rfl (v := .ref (ad 71)) rfl dX5_ahead_35 ?_
    refine lv_iload_n hx hb dX5_ahead_38 rfl (lv_at hl 1 rfl) ?_
    refine lv_iload_n hx hb dX5_ahead_39 rfl (lv_at hl 2 rfl) ?_
    refine lv_iload_n hx hb dX5_ahead_40 rfl (lv_at hl 3 rfl) ?_
    refine q_callIS (As := [.int (nI i), .int (nI j), .int w]) (r := vd (dOK (upd (g 14) (z 1) (nI i)) (upd (g 15) (z 1) (nI j)) (upd (g 16) (z 1) w) (g 12) (g 13) ((z 1) + 1)) (dMV (upd (g 14) (z 1) (nI i)) (upd (g 15) (z 1) (nI j)) (upd (g 16) (z 1) w) (g 12) (g 13) (g 17) (g 18) ((z 1) + 1))) (wc := yrW cA ad g z) (w1 := yrW cA ad (gs (gs (gs (gs (gs (gs (gs g 14 (upd (g 14) (z 1) (nI i))) 15 (upd (g 15) (z 1) (nI j))) 16 (upd (g 16) (z 1) w)) 17 (bif dOK (upd (g 14) (z 1) (nI i)) (upd (g 15) (z 1) (nI j)) (upd (g 16) (z 1) w) (g 12) (g 13) ((z 1) + 1) then itF (upd (g 14) (z 1) (nI i)) (upd (g 15) (z 1) (nI j)) (upd (g 16) (z 1) w) (g 12) ((z 1) + 1) 16 else (g 17))) 18 (bif dOK (upd (g 14) (z 1) (nI i)) (upd (g 15) (z 1) (nI j)) (upd (g 16) (z 1) w) (g 12) (g 13) ((z 1) + 1) then itL (upd (g 14) (z 1) (nI i)) (upd (g 15) (z 1) (nI j)) (upd (g 16) (z 1) w) (g 13) ((z 1) + 1) 16 else (g 18))) 19 (itF (upd (g 14) (z 1) (nI i)) (upd (g 15) (z 1) (nI j)) (upd (g 16) (z 1) w) (g 12) ((z 1) + 1) 16)) 20 (itL (upd (g 14) (z 1) (nI i)) (upd (g 15) (z 1) (nI j)) (upd (g 16) (z 1) w) (g 13) ((z 1) + 1) 16)) (zs z 1 (bif dOK (upd (g 14) (z 1) (nI i)) (upd (g 15) (z 1) (nI j)) (upd (g 16) (z 1) w) (g 12) (g 13) ((z 1) + 1) then (z 1) + 1 else (z 1)))) (ws1 := rlW cA ad (gs (gs (gs (gs (gs (gs (gs g 14 (upd (g 14) (z 1) (nI i))) 15 (upd (g 15) (z 1) (nI j))) 16 (upd (g 16) (z 1) w)) 17 (bif dOK (upd (g 14) (z 1) (nI i)) (upd (g 15) (z 1) (nI j)) (upd (g 16) (z 1) w) (g 12) (g 13) ((z 1) + 1) then itF (upd (g 14) (z 1) (nI i)) (upd (g 15) (z 1) (nI j)) (upd (g 16) (z 1) w) (g 12) ((z 1) + 1) 16 else (g 17))) 18 (bif dOK (upd (g 14) (z 1) (nI i)) (upd (g 15) (z 1) (nI j)) (upd (g 16) (z 1) w) (g 12) (g 13) ((z 1) + 1) then itL (upd (g 14) (z 1) (nI i)) (upd (g 15) (z 1) (nI j)) (upd (g 16) (z 1) w) (g 13) ((z 1) + 1) 16 else (g 18))) 19 (itF (upd (g 14) (z 1) (nI i)) (upd (g 15) (z 1) (nI j)) (upd (g 16) (z 1) w) (g 12) ((z 1) + 1) 16)) 20 (itL (upd (g 14) (z 1) (nI i)) (upd (g 15) (z 1) (nI j)) (upd (g 16) (z 1) w) (g 13) ((z 1) + 1) 16)) (zs z 1 (bif dOK (upd (g 14) (z 1) (nI i)) (upd (g 15) (z 1) (nI j)) (upd (g 16) (z 1) w) (g 12) (g 13) ((z 1) + 1) then (z 1) + 1 else (z 1)))) hx hb hml hown hT hK hP hD hS hA (c_X4_tellAhead l D cA ad g z i j w (show i < 16 by omega) (show j < 16 by omega) hE (show (z 1) < 40 by omega)) k_X4_tellAhead kl_X5_124 (q0 := 0) rfl rfl rfl (rl_a cA ad g z) (psW cA ad g z ++ gpW cA ad g z) rfl (rl_y rfl rfl rfl) ((yrW_adr _ _ _ _).trans (yrW_adr _ _ _ _).symm) hl rfl rfl (Nat.le_of_ble_eq_true rfl) ⟨⟨rfl, rfl⟩, Nat.le_of_ble_eq_true rfl, Nat.le_of_ble_eq_true rfl⟩ ⟨Nat.zero_le _, Nat.zero_le _⟩ dX5_ahead_41 (fun H locs hP hD hS => ?_)
    refine lv_istore (lv' := [(4, .int (vd (dOK (upd (g 14) (z 1) (nI i)) (upd (g 15) (z 1) (nI j)) (upd (g 16) (z 1) w) (g 12) (g 13) ((z 1) + 1)) (dMV (upd (g 14) (z 1) (nI i)) (upd (g 15) (z 1) (nI j)) (upd (g 16) (z 1) w) (g 12) (g 13) (g 17) (g 18) ((z 1) + 1)))), (0, .ref (ad 70)), (1, .int (nI i)), (2, .int (nI j)), (3, .int w)]) hx hb dX5_ahead_44 hl (by decide) rfl (fun ls hl => ?_)
    refine lv_iload hx hb dX5_ahead_46 (lv_at hl 0 rfl) ?_
    refine q_callSV (As := [.int (vd (dOK (upd (g 14) (z 1) (nI i)) (upd (g 15) (z 1) (nI j)) (upd (g 16) (z 1) w) (g 12) (g 13) ((z 1) + 1)) (dMV (upd (g 14) (z 1) (nI i)) (upd (g 15) (z 1) (nI j)) (upd (g 16) (z 1) w) (g 12) (g 13) (g 17) (g 18) ((z 1) + 1)))]) hx hb hml hown hT hK hP hD hS hA (c_X5_needDating l D cA (vd (dOK (upd (g 14) (z 1) (nI i)) (upd (g 15) (z 1) (nI j)) (upd (g 16) (z 1) w) (g 12) (g 13) ((z 1) + 1)) (dMV (upd (g 14) (z 1) (nI i)) (upd (g 15) (z 1) (nI j)) (upd (g 16) (z 1) w) (g 12) (g 13) (g 17) (g 18) ((z 1) + 1))) (fun h => Bool.false_ne_true ((vd_m1 dMV_le h).symm.trans hd9))) k_X5_needDating kl_X5_128 hl rfl rfl (Nat.le_of_ble_eq_true rfl) ⟨⟨rfl, rfl⟩, Nat.le_of_ble_eq_true rfl, Nat.le_of_ble_eq_true rfl⟩ ⟨Nat.zero_le _, Nat.zero_le _⟩ dX5_ahead_48 (fun H locs hP hD hS => ?_)
    refine lv_iload hx hb dX5_ahead_51 (lv_at hl 0 rfl) ?_
    exact q_iret hx hb hr hlk (by rfl) hP hS dX5_ahead_53
  · have c_21 := q_b0n c_21
    exact absurd (of_decide_eq_true c_21) (by omega)
abbrev rm_X5_aheadx : Room := { frames := 8, cells := 1, slots := 6, locals := 125 }
set_option maxRecDepth 100000 in
set_option maxHeartbeats 4000000 in
theorem c_X5_aheadx (l : Launch) (htr : l.stackTraces = false) (D : va_G) (cA : ClassId) (ad : Nat → Nat) (g : Nat → Nat → Int32) (z : Nat → Nat) (x : Int32) (y : Int32) (w : Int32) (h1 : ¬ q_r x (z 0)) (hc : (z 0) ≤ 16) : q_CX l yX5_ahead [Cond.code yX5_ahead cX5_ahead 5 (some .int)] rm_X5_aheadx D cA [.ref (ad 70), .int x, .int y, .int w] (rlW cA ad g z) "java/lang/IndexOutOfBoundsException" (rlW cA ad g z) := by
  refine q_startX RX5 (by decide +kernel) rfl (Nat.le_of_ble_eq_true rfl) ?_
  intro p e s m below meth c A args H locs ls hx hb hr hml hown hT hlk hP hK hD hA hS hl hout hX hZ
  have hl : lv_has ls 5 [(0, .ref (ad 70)), (1, .int x), (2, .int y), (3, .int w)] := hl
  refine lv_aload_n hx hb dX5_ahead_0 rfl (lv_at hl 0 rfl) ?_
  refine lv_iload_n hx hb dX5_ahead_1 rfl (lv_at hl 1 rfl) ?_
  refine lv_iload_n hx hb dX5_ahead_2 rfl (lv_at hl 2 rfl) ?_
  exact q_callXW (As := [.int x, .int y]) hx hb hml hown hT hK hP hD hS hA hout hlk hX hZ (c_X5_needTwoMentionsx l htr D cA ad g z x y h1 (show (z 0) ≤ 16 by omega)) k_X5_needTwoMentions kl_X5_115 (q0 := 0) rfl rfl rfl hl rfl rfl (Nat.le_of_ble_eq_true rfl) ⟨⟨rfl, rfl⟩, Nat.le_of_ble_eq_true rfl, Nat.le_of_ble_eq_true rfl⟩ ⟨Nat.le_of_ble_eq_true rfl, Nat.le_of_ble_eq_true rfl⟩ dX5_ahead_3
abbrev rm_X5_aheadx2 : Room := { frames := 8, cells := 1, slots := 6, locals := 125 }
set_option maxRecDepth 100000 in
set_option maxHeartbeats 4000000 in
theorem c_X5_aheadx2 (l : Launch) (htr : l.stackTraces = false) (D : va_G) (cA : ClassId) (ad : Nat → Nat) (g : Nat → Nat → Int32) (z : Nat → Nat) (x : Int32) (y : Int32) (w : Int32) (h1 : q_r x (z 0)) (h2 : ¬ q_r y (z 0)) (hc : (z 0) ≤ 16) : q_CX l yX5_ahead [Cond.code yX5_ahead cX5_ahead 5 (some .int)] rm_X5_aheadx2 D cA [.ref (ad 70), .int x, .int y, .int w] (rlW cA ad g z) "java/lang/IndexOutOfBoundsException" (rlW cA ad g z) := by
  refine q_startX RX5 (by decide +kernel) rfl (Nat.le_of_ble_eq_true rfl) ?_
  intro p e s m below meth c A args H locs ls hx hb hr hml hown hT hlk hP hK hD hA hS hl hout hX hZ
  have hl : lv_has ls 5 [(0, .ref (ad 70)), (1, .int x), (2, .int y), (3, .int w)] := hl
  refine lv_aload_n hx hb dX5_ahead_0 rfl (lv_at hl 0 rfl) ?_
  refine lv_iload_n hx hb dX5_ahead_1 rfl (lv_at hl 1 rfl) ?_
  refine lv_iload_n hx hb dX5_ahead_2 rfl (lv_at hl 2 rfl) ?_
  exact q_callXW (As := [.int x, .int y]) hx hb hml hown hT hK hP hD hS hA hout hlk hX hZ (c_X5_needTwoMentionsx2 l htr D cA ad g z x y h1 h2 (show (z 0) ≤ 16 by omega)) k_X5_needTwoMentions kl_X5_115 (q0 := 0) rfl rfl rfl hl rfl rfl (Nat.le_of_ble_eq_true rfl) ⟨⟨rfl, rfl⟩, Nat.le_of_ble_eq_true rfl, Nat.le_of_ble_eq_true rfl⟩ ⟨Nat.le_of_ble_eq_true rfl, Nat.le_of_ble_eq_true rfl⟩ dX5_ahead_3
abbrev rm_X5_aheadx3 : Room := { frames := 8, cells := 1, slots := 6, locals := 125 }
set_option maxRecDepth 100000 in
set_option maxHeartbeats 4000000 in
theorem c_X5_aheadx3 (l : Launch) (htr : l.stackTraces = false) (D : va_G) (cA : ClassId) (ad : Nat → Nat) (g : Nat → Nat → Int32) (z : Nat → Nat) (x : Int32) (y : Int32) (w : Int32) (h1 : q_r x (z 0)) (h2 : q_r y (z 0)) (hne : x = y) (hc : (z 0) ≤ 16) : q_CX l yX5_ahead [Cond.code yX5_ahead cX5_ahead 5 (some .int)] rm_X5_aheadx3 D cA [.ref (ad 70), .int x, .int y, .int w] (rlW cA ad g z) "java/lang/IllegalArgumentException" (rlW cA ad g z) := by
  refine q_startX RX5 (by decide +kernel) rfl (Nat.le_of_ble_eq_true rfl) ?_
  intro p e s m below meth c A args H locs ls hx hb hr hml hown hT hlk hP hK hD hA hS hl hout hX hZ
  have hl : lv_has ls 5 [(0, .ref (ad 70)), (1, .int x), (2, .int y), (3, .int w)] := hl
  refine lv_aload_n hx hb dX5_ahead_0 rfl (lv_at hl 0 rfl) ?_
  refine lv_iload_n hx hb dX5_ahead_1 rfl (lv_at hl 1 rfl) ?_
  refine lv_iload_n hx hb dX5_ahead_2 rfl (lv_at hl 2 rfl) ?_
  exact q_callXW (As := [.int x, .int y]) hx hb hml hown hT hK hP hD hS hA hout hlk hX hZ (c_X5_needTwoMentionsx3 l htr D cA ad g z x y h1 h2 hne (show (z 0) ≤ 16 by omega)) k_X5_needTwoMentions kl_X5_115 (q0 := 0) rfl rfl rfl hl rfl rfl (Nat.le_of_ble_eq_true rfl) ⟨⟨rfl, rfl⟩, Nat.le_of_ble_eq_true rfl, Nat.le_of_ble_eq_true rfl⟩ ⟨Nat.le_of_ble_eq_true rfl, Nat.le_of_ble_eq_true rfl⟩ dX5_ahead_3
abbrev rm_X5_aheadx4 : Room := { frames := 7, cells := 1, slots := 6, locals := 104 }
set_option maxRecDepth 100000 in
set_option maxHeartbeats 4000000 in
theorem c_X5_aheadx4 (l : Launch) (htr : l.stackTraces = false) (D : va_G) (cA : ClassId) (ad : Nat → Nat) (g : Nat → Nat → Int32) (z : Nat → Nat) (i : Nat) (j : Nat) (w : Int32) (hi : i < (z 0)) (hj : j < (z 0)) (hc : (z 0) ≤ 16) (hne : ¬ i = j) (hw9 : ¬ (¬ w < (-50) ∧ w ≤ nI 50)) : q_CX l yX5_ahead [Cond.code yX5_ahead cX5_ahead 5 (some .int)] rm_X5_aheadx4 D cA [.ref (ad 70), .int (nI i), .int (nI j), .int w] (rlW cA ad g z) "java/lang/IllegalArgumentException" (rlW cA ad g z) := by
  refine q_startX RX5 (by decide +kernel) rfl (Nat.le_of_ble_eq_true rfl) ?_
  intro p e s m below meth c A args H locs ls hx hb hr hml hown hT hlk hP hK hD hA hS hl hout hX hZ
  have hl : lv_has ls 5 [(0, .ref (ad 70)), (1, .int (nI i)), (2, .int (nI j)), (3, .int w)] := hl
  refine lv_aload_n hx hb dX5_ahead_0 rfl (lv_at hl 0 rfl) ?_
  refine lv_iload_n hx hb dX5_ahead_1 rfl (lv_at hl 1 rfl) ?_
  refine lv_iload_n hx hb dX5_ahead_2 rfl (lv_at hl 2 rfl) ?_
  refine q_callVW (As := [.int (nI i), .int (nI j)]) (w1 := rlW cA ad g z) hx hb hml hown hT hK hP hD hS hA (c_X5_needTwoMentions l D cA ad g z (nI i) (nI j) (q_r_nI (by omega)) (q_r_nI (by omega)) (fun h => by have := nI_eq1 (by omega) (by omega) h; omega) (show (z 0) ≤ 16 by omega)) k_X5_needTwoMentions kl_X5_115 (q0 := 0) rfl rfl rfl ((rlW_adr _ _ _ _).trans (rlW_adr _ _ _ _).symm) hl rfl rfl (Nat.le_of_ble_eq_true rfl) ⟨⟨rfl, rfl⟩, Nat.le_of_ble_eq_true rfl, Nat.le_of_ble_eq_true rfl⟩ ⟨Nat.zero_le _, Nat.zero_le _⟩ dX5_ahead_3 (fun H locs hP hD hS => ?_)
  refine lv_iload_n hx hb dX5_ahead_6 rfl (lv_at hl 3 rfl) ?_
  refine lv_bipush (v := (-50)) hx hb dX5_ahead_7 (by decide +kernel) ?_
  refine lv_bipush (v := nI 50) hx hb dX5_ahead_9 (by decide +kernel) ?_
  exact q_callXS (As := [.int w, .int (-50), .int (nI 50)]) hx hb hml hown hT hK hP hD hS hA hout hlk hX hZ (c_X5_needWithinx l htr D cA w (-50) (nI 50) hw9) k_X5_needWithin kl_X5_83 hl rfl rfl (Nat.le_of_ble_eq_true rfl) ⟨⟨rfl, rfl⟩, Nat.le_of_ble_eq_true rfl, Nat.le_of_ble_eq_true rfl⟩ ⟨Nat.le_of_ble_eq_true rfl, Nat.le_of_ble_eq_true rfl⟩ dX5_ahead_11
abbrev rm_X5_aheadx5 : Room := { frames := 6, cells := 1, slots := 6, locals := 82 }
set_option maxRecDepth 100000 in
set_option maxHeartbeats 4000000 in
theorem c_X5_aheadx5 (l : Launch) (htr : l.stackTraces = false) (D : va_G) (cA : ClassId) (ad : Nat → Nat) (g : Nat → Nat → Int32) (z : Nat → Nat) (i : Nat) (j : Nat) (w : Int32) (hi : i < (z 0)) (hj : j < (z 0)) (hc : (z 0) ≤ 16) (hne : ¬ i = j) (hw9 : ¬ w < (-50) ∧ w ≤ nI 50) (ht : (z 1) = 40) : q_CX l yX5_ahead [Cond.code yX5_ahead cX5_ahead 5 (some .int)] rm_X5_aheadx5 D cA [.ref (ad 70), .int (nI i), .int (nI j), .int w] (rlW cA ad g z) "java/lang/IllegalStateException" (rlW cA ad g z) := by
  refine q_startX RX5 (by decide +kernel) rfl (Nat.le_of_ble_eq_true rfl) ?_
  intro p e s m below meth c A args H locs ls hx hb hr hml hown hT hlk hP hK hD hA hS hl hout hX hZ
  have hl : lv_has ls 5 [(0, .ref (ad 70)), (1, .int (nI i)), (2, .int (nI j)), (3, .int w)] := hl
  refine lv_aload_n hx hb dX5_ahead_0 rfl (lv_at hl 0 rfl) ?_
  refine lv_iload_n hx hb dX5_ahead_1 rfl (lv_at hl 1 rfl) ?_
  refine lv_iload_n hx hb dX5_ahead_2 rfl (lv_at hl 2 rfl) ?_
  refine q_callVW (As := [.int (nI i), .int (nI j)]) (w1 := rlW cA ad g z) hx hb hml hown hT hK hP hD hS hA (c_X5_needTwoMentions l D cA ad g z (nI i) (nI j) (q_r_nI (by omega)) (q_r_nI (by omega)) (fun h => by have := nI_eq1 (by omega) (by omega) h; omega) (show (z 0) ≤ 16 by omega)) k_X5_needTwoMentions kl_X5_115 (q0 := 0) rfl rfl rfl ((rlW_adr _ _ _ _).trans (rlW_adr _ _ _ _).symm) hl rfl rfl (Nat.le_of_ble_eq_true rfl) ⟨⟨rfl, rfl⟩, Nat.le_of_ble_eq_true rfl, Nat.le_of_ble_eq_true rfl⟩ ⟨Nat.zero_le _, Nat.zero_le _⟩ dX5_ahead_3 (fun H locs hP hD hS => ?_)
  refine lv_iload_n hx hb dX5_ahead_6 rfl (lv_at hl 3 rfl) ?_
  refine lv_bipush (v := (-50)) hx hb dX5_ahead_7 (by decide +kernel) ?_
  refine lv_bipush (v := nI 50) hx hb dX5_ahead_9 (by decide +kernel) ?_
  refine q_callSV (As := [.int w, .int (-50), .int (nI 50)]) hx hb hml hown hT hK hP hD hS hA (c_X5_needWithin l D cA w (-50) (nI 50) hw9.1 hw9.2) k_X5_needWithin kl_X5_83 hl rfl rfl (Nat.le_of_ble_eq_true rfl) ⟨⟨rfl, rfl⟩, Nat.le_of_ble_eq_true rfl, Nat.le_of_ble_eq_true rfl⟩ ⟨Nat.zero_le _, Nat.zero_le _⟩ dX5_ahead_11 (fun H locs hP hD hS => ?_)
  refine lv_aload_n hx hb dX5_ahead_14 rfl (lv_at hl 0 rfl) ?_
  refine q_get hx hb hT hown hK hP kw_X5 0 rfl rfl 10 (by decide) kf_X5_52 rfl (v := .ref (ad 71)) rfl dX5_ahead_15 ?_
  refine q_callIS (As := []) (r := q_b (decide (40 ≤ (z 1)))) (wc := yrW cA ad g z) (w1 := yrW cA ad g z) (ws1 := rlW cA ad g z) hx hb hml hown hT hK hP hD hS hA (c_X4_isFullyTold l D cA ad g z (show (z 1) ≤ 40 by omega)) k_X4_isFullyTold kl_X5_118 (q0 := 0) rfl rfl rfl (rl_a cA ad g z) (psW cA ad g z ++ gpW cA ad g z) rfl (rl_y rfl rfl rfl) ((yrW_adr _ _ _ _).trans (yrW_adr _ _ _ _).symm) hl rfl rfl (Nat.le_of_ble_eq_true rfl) ⟨⟨rfl, rfl⟩, Nat.le_of_ble_eq_true rfl, Nat.le_of_ble_eq_true rfl⟩ ⟨Nat.zero_le _, Nat.zero_le _⟩ dX5_ahead_18 (fun H locs hP hD hS => ?_)
  refine lv_if_eq (tgt := 34) hx hb dX5_ahead_21 (by decide) (fun c_21 => ?_) (fun c_21 => ?_)
  · have c_21 := q_b0e c_21
    exact absurd (of_decide_eq_false c_21) (fun h => h (by omega))
  · have c_21 := q_b0n c_21
    exact q_throw (text := "ahead was told 40 times") hx hb htr hml hown hT hX hZ hP hS hl hout hlk kx_X5_91 ki_java_lang_IllegalStateException (by decide +kernel) q_ok_ise (by decide +kernel) dX5_ahead_24 dX5_ahead_27 dX5_ahead_28 dX5_ahead_30 dX5_ahead_33 ⟨Nat.le_of_ble_eq_true rfl, Nat.le_of_ble_eq_true rfl, Nat.le_of_ble_eq_true rfl, Nat.le_of_ble_eq_true rfl⟩
abbrev rm_X5_aheadx6 : Room := { frames := 7, cells := 1, slots := 6, locals := 113 }
set_option maxRecDepth 100000 in
set_option maxHeartbeats 4000000 in
theorem c_X5_aheadx6 (l : Launch) (htr : l.stackTraces = false) (D : va_G) (cA : ClassId) (ad : Nat → Nat) (g : Nat → Nat → Int32) (z : Nat → Nat) (i : Nat) (j : Nat) (w : Int32) (hi : i < (z 0)) (hj : j < (z 0)) (hc : (z 0) ≤ 16) (hne : ¬ i = j) (hw9 : ¬ w < (-50) ∧ w ≤ nI 50) (hE : ∀ k, k < (z 1) → q_r ((g 14) k) 16 ∧ q_r ((g 15) k) 16) (ht : (z 1) < 40) (hd9 : dOK (upd (g 14) (z 1) (nI i)) (upd (g 15) (z 1) (nI j)) (upd (g 16) (z 1) w) (g 12) (g 13) ((z 1) + 1) = false) : q_CX l yX5_ahead [Cond.code yX5_ahead cX5_ahead 5 (some .int)] rm_X5_aheadx6 D cA [.ref (ad 70), .int (nI i), .int (nI j), .int w] (rlW cA ad g z) "java/lang/IllegalStateException" (rlW cA ad (gs (gs (gs (gs (gs (gs (gs g 14 (upd (g 14) (z 1) (nI i))) 15 (upd (g 15) (z 1) (nI j))) 16 (upd (g 16) (z 1) w)) 17 (bif dOK (upd (g 14) (z 1) (nI i)) (upd (g 15) (z 1) (nI j)) (upd (g 16) (z 1) w) (g 12) (g 13) ((z 1) + 1) then itF (upd (g 14) (z 1) (nI i)) (upd (g 15) (z 1) (nI j)) (upd (g 16) (z 1) w) (g 12) ((z 1) + 1) 16 else (g 17))) 18 (bif dOK (upd (g 14) (z 1) (nI i)) (upd (g 15) (z 1) (nI j)) (upd (g 16) (z 1) w) (g 12) (g 13) ((z 1) + 1) then itL (upd (g 14) (z 1) (nI i)) (upd (g 15) (z 1) (nI j)) (upd (g 16) (z 1) w) (g 13) ((z 1) + 1) 16 else (g 18))) 19 (itF (upd (g 14) (z 1) (nI i)) (upd (g 15) (z 1) (nI j)) (upd (g 16) (z 1) w) (g 12) ((z 1) + 1) 16)) 20 (itL (upd (g 14) (z 1) (nI i)) (upd (g 15) (z 1) (nI j)) (upd (g 16) (z 1) w) (g 13) ((z 1) + 1) 16)) (zs z 1 (bif dOK (upd (g 14) (z 1) (nI i)) (upd (g 15) (z 1) (nI j)) (upd (g 16) (z 1) w) (g 12) (g 13) ((z 1) + 1) then (z 1) + 1 else (z 1)))) := by
  refine q_startX RX5 (by decide +kernel) rfl (Nat.le_of_ble_eq_true rfl) ?_
  intro p e s m below meth c A args H locs ls hx hb hr hml hown hT hlk hP hK hD hA hS hl hout hX hZ
  have hl : lv_has ls 5 [(0, .ref (ad 70)), (1, .int (nI i)), (2, .int (nI j)), (3, .int w)] := hl
  refine lv_aload_n hx hb dX5_ahead_0 rfl (lv_at hl 0 rfl) ?_
  refine lv_iload_n hx hb dX5_ahead_1 rfl (lv_at hl 1 rfl) ?_
  refine lv_iload_n hx hb dX5_ahead_2 rfl (lv_at hl 2 rfl) ?_
  refine q_callVW (As := [.int (nI i), .int (nI j)]) (w1 := rlW cA ad g z) hx hb hml hown hT hK hP hD hS hA (c_X5_needTwoMentions l D cA ad g z (nI i) (nI j) (q_r_nI (by omega)) (q_r_nI (by omega)) (fun h => by have := nI_eq1 (by omega) (by omega) h; omega) (show (z 0) ≤ 16 by omega)) k_X5_needTwoMentions kl_X5_115 (q0 := 0) rfl rfl rfl ((rlW_adr _ _ _ _).trans (rlW_adr _ _ _ _).symm) hl rfl rfl (Nat.le_of_ble_eq_true rfl) ⟨⟨rfl, rfl⟩, Nat.le_of_ble_eq_true rfl, Nat.le_of_ble_eq_true rfl⟩ ⟨Nat.zero_le _, Nat.zero_le _⟩ dX5_ahead_3 (fun H locs hP hD hS => ?_)
  refine lv_iload_n hx hb dX5_ahead_6 rfl (lv_at hl 3 rfl) ?_
  refine lv_bipush (v := (-50)) hx hb dX5_ahead_7 (by decide +kernel) ?_
  refine lv_bipush (v := nI 50) hx hb dX5_ahead_9 (by decide +kernel) ?_
  refine q_callSV (As := [.int w, .int (-50), .int (nI 50)]) hx hb hml hown hT hK hP hD hS hA (c_X5_needWithin l D cA w (-50) (nI 50) hw9.1 hw9.2) k_X5_needWithin kl_X5_83 hl rfl rfl (Nat.le_of_ble_eq_true rfl) ⟨⟨rfl, rfl⟩, Nat.le_of_ble_eq_true rfl, Nat.le_of_ble_eq_true rfl⟩ ⟨Nat.zero_le _, Nat.zero_le _⟩ dX5_ahead_11 (fun H locs hP hD hS => ?_)
  refine lv_aload_n hx hb dX5_ahead_14 rfl (lv_at hl 0 rfl) ?_
  refine q_get hx hb hT hown hK hP kw_X5 0 rfl rfl 10 (by decide) kf_X5_52 rfl (v := .ref (ad 71)) rfl dX5_ahead_15 ?_
  refine q_callIS (As := []) (r := q_b (decide (40 ≤ (z 1)))) (wc := yrW cA ad g z) (w1 := yrW cA ad g z) (ws1 := rlW cA ad g z) hx hb hml hown hT hK hP hD hS hA (c_X4_isFullyTold l D cA ad g z (show (z 1) ≤ 40 by omega)) k_X4_isFullyTold kl_X5_118 (q0 := 0) rfl rfl rfl (rl_a cA ad g z) (psW cA ad g z ++ gpW cA ad g z) rfl (rl_y rfl rfl rfl) ((yrW_adr _ _ _ _).trans (yrW_adr _ _ _ _).symm) hl rfl rfl (Nat.le_of_ble_eq_true rfl) ⟨⟨rfl, rfl⟩, Nat.le_of_ble_eq_true rfl, Nat.le_of_ble_eq_true rfl⟩ ⟨Nat.zero_le _, Nat.zero_le _⟩ dX5_ahead_18 (fun H locs hP hD hS => ?_)
  refine lv_if_eq (tgt := 34) hx hb dX5_ahead_21 (by decide) (fun c_21 => ?_) (fun c_21 => ?_)
  · have c_21 := q_b0e c_21
    refine lv_aload_n hx hb dX5_ahead_34 rfl (lv_at hl 0 rfl) ?_
    refine q_get hx hb hT hown hK hP kw_X5 0 rfl rfl 10 (by decide) kf_X5_52 rfl (v := .ref (ad 71)) rfl dX5_ahead_35 ?_
    refine lv_iload_n hx hb dX5_ahead_38 rfl (lv_at hl 1 rfl) ?_
    refine lv_iload_n hx hb dX5_ahead_39 rfl (lv_at hl 2 rfl) ?_
    refine lv_iload_n hx hb dX5_ahead_40 rfl (lv_at hl 3 rfl) ?_
    refine q_callIS (As := [.int (nI i), .int (nI j), .int w]) (r := vd (dOK (upd (g 14) (z 1) (nI i)) (upd (g 15) (z 1) (nI j)) (upd (g 16) (z 1) w) (g 12) (g 13) ((z 1) + 1)) (dMV (upd (g 14) (z 1) (nI i)) (upd (g 15) (z 1) (nI j)) (upd (g 16) (z 1) w) (g 12) (g 13) (g 17) (g 18) ((z 1) + 1))) (wc := yrW cA ad g z) (w1 := yrW cA ad (gs (gs (gs (gs (gs (gs (gs g 14 (upd (g 14) (z 1) (nI i))) 15 (upd (g 15) (z 1) (nI j))) 16 (upd (g 16) (z 1) w)) 17 (bif dOK (upd (g 14) (z 1) (nI i)) (upd (g 15) (z 1) (nI j)) (upd (g 16) (z 1) w) (g 12) (g 13) ((z 1) + 1) then itF (upd (g 14) (z 1) (nI i)) (upd (g 15) (z 1) (nI j)) (upd (g 16) (z 1) w) (g 12) ((z 1) + 1) 16 else (g 17))) 18 (bif dOK (upd (g 14) (z 1) (nI i)) (upd (g 15) (z 1) (nI j)) (upd (g 16) (z 1) w) (g 12) (g 13) ((z 1) + 1) then itL (upd (g 14) (z 1) (nI i)) (upd (g 15) (z 1) (nI j)) (upd (g 16) (z 1) w) (g 13) ((z 1) + 1) 16 else (g 18))) 19 (itF (upd (g 14) (z 1) (nI i)) (upd (g 15) (z 1) (nI j)) (upd (g 16) (z 1) w) (g 12) ((z 1) + 1) 16)) 20 (itL (upd (g 14) (z 1) (nI i)) (upd (g 15) (z 1) (nI j)) (upd (g 16) (z 1) w) (g 13) ((z 1) + 1) 16)) (zs z 1 (bif dOK (upd (g 14) (z 1) (nI i)) (upd (g 15) (z 1) (nI j)) (upd (g 16) (z 1) w) (g 12) (g 13) ((z 1) + 1) then (z 1) + 1 else (z 1)))) (ws1 := rlW cA ad (gs (gs (gs (gs (gs (gs (gs g 14 (upd (g 14) (z 1) (nI i))) 15 (upd (g 15) (z 1) (nI j))) 16 (upd (g 16) (z 1) w)) 17 (bif dOK (upd (g 14) (z 1) (nI i)) (upd (g 15) (z 1) (nI j)) (upd (g 16) (z 1) w) (g 12) (g 13) ((z 1) + 1) then itF (upd (g 14) (z 1) (nI i)) (upd (g 15) (z 1) (nI j)) (upd (g 16) (z 1) w) (g 12) ((z 1) + 1) 16 else (g 17))) 18 (bif dOK (upd (g 14) (z 1) (nI i)) (upd (g 15) (z 1) (nI j)) (upd (g 16) (z 1) w) (g 12) (g 13) ((z 1) + 1) then itL (upd (g 14) (z 1) (nI i)) (upd (g 15) (z 1) (nI j)) (upd (g 16) (z 1) w) (g 13) ((z 1) + 1) 16 else (g 18))) 19 (itF (upd (g 14) (z 1) (nI i)) (upd (g 15) (z 1) (nI j)) (upd (g 16) (z 1) w) (g 12) ((z 1) + 1) 16)) 20 (itL (upd (g 14) (z 1) (nI i)) (upd (g 15) (z 1) (nI j)) (upd (g 16) (z 1) w) (g 13) ((z 1) + 1) 16)) (zs z 1 (bif dOK (upd (g 14) (z 1) (nI i)) (upd (g 15) (z 1) (nI j)) (upd (g 16) (z 1) w) (g 12) (g 13) ((z 1) + 1) then (z 1) + 1 else (z 1)))) hx hb hml hown hT hK hP hD hS hA (c_X4_tellAhead l D cA ad g z i j w (show i < 16 by omega) (show j < 16 by omega) hE (show (z 1) < 40 by omega)) k_X4_tellAhead kl_X5_124 (q0 := 0) rfl rfl rfl (rl_a cA ad g z) (psW cA ad g z ++ gpW cA ad g z) rfl (rl_y rfl rfl rfl) ((yrW_adr _ _ _ _).trans (yrW_adr _ _ _ _).symm) hl rfl rfl (Nat.le_of_ble_eq_true rfl) ⟨⟨rfl, rfl⟩, Nat.le_of_ble_eq_true rfl, Nat.le_of_ble_eq_true rfl⟩ ⟨Nat.zero_le _, Nat.zero_le _⟩ dX5_ahead_41 (fun H locs hP hD hS => ?_)
    refine lv_istore (lv' := [(4, .int (vd (dOK (upd (g 14) (z 1) (nI i)) (upd (g 15) (z 1) (nI j)) (upd (g 16) (z 1) w) (g 12) (g 13) ((z 1) + 1)) (dMV (upd (g 14) (z 1) (nI i)) (upd (g 15) (z 1) (nI j)) (upd (g 16) (z 1) w) (g 12) (g 13) (g 17) (g 18) ((z 1) + 1)))), (0, .ref (ad 70)), (1, .int (nI i)), (2, .int (nI j)), (3, .int w)]) hx hb dX5_ahead_44 hl (by decide) rfl (fun ls hl => ?_)
    refine lv_iload hx hb dX5_ahead_46 (lv_at hl 0 rfl) ?_
    exact q_callXS (As := [.int (vd (dOK (upd (g 14) (z 1) (nI i)) (upd (g 15) (z 1) (nI j)) (upd (g 16) (z 1) w) (g 12) (g 13) ((z 1) + 1)) (dMV (upd (g 14) (z 1) (nI i)) (upd (g 15) (z 1) (nI j)) (upd (g 16) (z 1) w) (g 12) (g 13) (g 17) (g 18) ((z 1) + 1)))]) hx hb hml hown hT hK hP hD hS hA hout hlk hX hZ (c_X5_needDatingx l htr D cA (vd (dOK (upd (g 14) (z 1) (nI i)) (upd (g 15) (z 1) (nI j)) (upd (g 16) (z 1) w) (g 12) (g 13) ((z 1) + 1)) (dMV (upd (g 14) (z 1) (nI i)) (upd (g 15) (z 1) (nI j)) (upd (g 16) (z 1) w) (g 12) (g 13) (g 17) (g 18) ((z 1) + 1))) (congrArg (fun o => vd o _) hd9)) k_X5_needDating kl_X5_128 hl rfl rfl (Nat.le_of_ble_eq_true rfl) ⟨⟨rfl, rfl⟩, Nat.le_of_ble_eq_true rfl, Nat.le_of_ble_eq_true rfl⟩ ⟨Nat.le_of_ble_eq_true rfl, Nat.le_of_ble_eq_true rfl⟩ dX5_ahead_48
  · have c_21 := q_b0n c_21
    exact absurd (of_decide_eq_true c_21) (by omega)
abbrev rm_X5_find : Room := { frames := 6, cells := 0, slots := 0, locals := 139 }
set_option maxRecDepth 100000 in
set_option maxHeartbeats 4000000 in
theorem c_X5_find (l : Launch) (D : va_G) (cA : ClassId) (ad : Nat → Nat) (g : Nat → Nat → Int32) (z : Nat → Nat) (k : Nat) (lo : Int32) (hi : Int32) (hk : k < (z 0)) (hc : (z 0) ≤ 16) (hlo : ¬ lo < nI 0 ∧ lo ≤ nI 999) (hhi : ¬ hi < lo ∧ hi ≤ nI 999) (hE : ∀ k, k < (z 1) → q_r ((g 14) k) 16 ∧ q_r ((g 15) k) 16) (ht : (z 1) ≤ 40) (hd9 : dOK (g 14) (g 15) (g 16) (upd (g 12) k (mx ((g 12) k) lo)) (upd (g 13) k (mn ((g 13) k) hi)) (z 1) = true) : q_CI l yX5_find [Cond.code yX5_find cX5_find 5 (some .int)] rm_X5_find D cA [.ref (ad 70), .int (nI k), .int lo, .int hi] (rlW cA ad g z) (vd (dOK (g 14) (g 15) (g 16) (upd (g 12) k (mx ((g 12) k) lo)) (upd (g 13) k (mn ((g 13) k) hi)) (z 1)) (dMV (g 14) (g 15) (g 16) (upd (g 12) k (mx ((g 12) k) lo)) (upd (g 13) k (mn ((g 13) k) hi)) (g 17) (g 18) (z 1))) (rlW cA ad (gs (gs (gs (gs (gs (gs g 12 (bif dOK (g 14) (g 15) (g 16) (upd (g 12) k (mx ((g 12) k) lo)) (upd (g 13) k (mn ((g 13) k) hi)) (z 1) then (upd (g 12) k (mx ((g 12) k) lo)) else (g 12))) 13 (bif dOK (g 14) (g 15) (g 16) (upd (g 12) k (mx ((g 12) k) lo)) (upd (g 13) k (mn ((g 13) k) hi)) (z 1) then (upd (g 13) k (mn ((g 13) k) hi)) else (g 13))) 17 (bif dOK (g 14) (g 15) (g 16) (upd (g 12) k (mx ((g 12) k) lo)) (upd (g 13) k (mn ((g 13) k) hi)) (z 1) then itF (g 14) (g 15) (g 16) (upd (g 12) k (mx ((g 12) k) lo)) (z 1) 16 else (g 17))) 18 (bif dOK (g 14) (g 15) (g 16) (upd (g 12) k (mx ((g 12) k) lo)) (upd (g 13) k (mn ((g 13) k) hi)) (z 1) then itL (g 14) (g 15) (g 16) (upd (g 13) k (mn ((g 13) k) hi)) (z 1) 16 else (g 18))) 19 (itF (g 14) (g 15) (g 16) (upd (g 12) k (mx ((g 12) k) lo)) (z 1) 16)) 20 (itL (g 14) (g 15) (g 16) (upd (g 13) k (mn ((g 13) k) hi)) (z 1) 16)) z) := by
  refine q_startI RX5 (by decide +kernel) rfl (Nat.le_of_ble_eq_true rfl) ?_
  intro p e s m below meth c A args H locs ls hx hb hr hml hown hT hlk hP hK hD hA hS hl
  have hl : lv_has ls 5 [(0, .ref (ad 70)), (1, .int (nI k)), (2, .int lo), (3, .int hi)] := hl
  refine lv_aload_n hx hb dX5_find_0 rfl (lv_at hl 0 rfl) ?_
  refine lv_iload_n hx hb dX5_find_1 rfl (lv_at hl 1 rfl) ?_
  refine q_callVW (As := [.int (nI k)]) (w1 := rlW cA ad g z) hx hb hml hown hT hK hP hD hS hA (c_X5_needMention l D cA ad g z (nI k) (q_r_nI (by omega)) (show (z 0) ≤ 16 by omega)) k_X5_needMention kl_X5_131 (q0 := 0) rfl rfl rfl ((rlW_adr _ _ _ _).trans (rlW_adr _ _ _ _).symm) hl rfl rfl (Nat.le_of_ble_eq_true rfl) ⟨⟨rfl, rfl⟩, Nat.le_of_ble_eq_true rfl, Nat.le_of_ble_eq_true rfl⟩ ⟨Nat.zero_le _, Nat.zero_le _⟩ dX5_find_2 (fun H locs hP hD hS => ?_)
  refine lv_iload_n hx hb dX5_find_5 rfl (lv_at hl 2 rfl) ?_
  refine lv_iload_n hx hb dX5_find_6 rfl (lv_at hl 3 rfl) ?_
  refine q_callSV (As := [.int lo, .int hi]) hx hb hml hown hT hK hP hD hS hA (c_X5_needYears l D cA lo hi hlo hhi) k_X5_needYears kl_X5_134 hl rfl rfl (Nat.le_of_ble_eq_true rfl) ⟨⟨rfl, rfl⟩, Nat.le_of_ble_eq_true rfl, Nat.le_of_ble_eq_true rfl⟩ ⟨Nat.zero_le _, Nat.zero_le _⟩ dX5_find_7 (fun H locs hP hD hS => ?_)
  refine lv_aload_n hx hb dX5_find_10 rfl (lv_at hl 0 rfl) ?_
  refine q_get hx hb hT hown hK hP kw_X5 0 rfl rfl 10 (by decide) kf_X5_52 rfl (v := .ref (ad 71)) rfl dX5_find_11 ?_
  refine lv_iload_n hx hb dX5_find_14 rfl (lv_at hl 1 rfl) ?_
  refine lv_iload_n hx hb dX5_find_15 rfl (lv_at hl 2 rfl) ?_
  refine lv_iload_n hx hb dX5_find_16 rfl (lv_at hl 3 rfl) ?_
  refine q_callIS (As := [.int (nI k), .int lo, .int hi]) (r := vd (dOK (g 14) (g 15) (g 16) (upd (g 12) k (mx ((g 12) k) lo)) (upd (g 13) k (mn ((g 13) k) hi)) (z 1)) (dMV (g 14) (g 15) (g 16) (upd (g 12) k (mx ((g 12) k) lo)) (upd (g 13) k (mn ((g 13) k) hi)) (g 17) (g 18) (z 1))) (wc := yrW cA ad g z) (w1 := yrW cA ad (gs (gs (gs (gs (gs (gs g 12 (bif dOK (g 14) (g 15) (g 16) (upd (g 12) k (mx ((g 12) k) lo)) (upd (g 13) k (mn ((g 13) k) hi)) (z 1) then (upd (g 12) k (mx ((g 12) k) lo)) else (g 12))) 13 (bif dOK (g 14) (g 15) (g 16) (upd (g 12) k (mx ((g 12) k) lo)) (upd (g 13) k (mn ((g 13) k) hi)) (z 1) then (upd (g 13) k (mn ((g 13) k) hi)) else (g 13))) 17 (bif dOK (g 14) (g 15) (g 16) (upd (g 12) k (mx ((g 12) k) lo)) (upd (g 13) k (mn ((g 13) k) hi)) (z 1) then itF (g 14) (g 15) (g 16) (upd (g 12) k (mx ((g 12) k) lo)) (z 1) 16 else (g 17))) 18 (bif dOK (g 14) (g 15) (g 16) (upd (g 12) k (mx ((g 12) k) lo)) (upd (g 13) k (mn ((g 13) k) hi)) (z 1) then itL (g 14) (g 15) (g 16) (upd (g 13) k (mn ((g 13) k) hi)) (z 1) 16 else (g 18))) 19 (itF (g 14) (g 15) (g 16) (upd (g 12) k (mx ((g 12) k) lo)) (z 1) 16)) 20 (itL (g 14) (g 15) (g 16) (upd (g 13) k (mn ((g 13) k) hi)) (z 1) 16)) z) (ws1 := rlW cA ad (gs (gs (gs (gs (gs (gs g 12 (bif dOK (g 14) (g 15) (g 16) (upd (g 12) k (mx ((g 12) k) lo)) (upd (g 13) k (mn ((g 13) k) hi)) (z 1) then (upd (g 12) k (mx ((g 12) k) lo)) else (g 12))) 13 (bif dOK (g 14) (g 15) (g 16) (upd (g 12) k (mx ((g 12) k) lo)) (upd (g 13) k (mn ((g 13) k) hi)) (z 1) then (upd (g 13) k (mn ((g 13) k) hi)) else (g 13))) 17 (bif dOK (g 14) (g 15) (g 16) (upd (g 12) k (mx ((g 12) k) lo)) (upd (g 13) k (mn ((g 13) k) hi)) (z 1) then itF (g 14) (g 15) (g 16) (upd (g 12) k (mx ((g 12) k) lo)) (z 1) 16 else (g 17))) 18 (bif dOK (g 14) (g 15) (g 16) (upd (g 12) k (mx ((g 12) k) lo)) (upd (g 13) k (mn ((g 13) k) hi)) (z 1) then itL (g 14) (g 15) (g 16) (upd (g 13) k (mn ((g 13) k) hi)) (z 1) 16 else (g 18))) 19 (itF (g 14) (g 15) (g 16) (upd (g 12) k (mx ((g 12) k) lo)) (z 1) 16)) 20 (itL (g 14) (g 15) (g 16) (upd (g 13) k (mn ((g 13) k) hi)) (z 1) 16)) z) hx hb hml hown hT hK hP hD hS hA (c_X4_narrow l D cA ad g z k lo hi (show k < 16 by omega) hE (show (z 1) ≤ 40 by omega)) k_X4_narrow kl_X5_137 (q0 := 0) rfl rfl rfl (rl_a cA ad g z) (psW cA ad g z ++ gpW cA ad g z) rfl (rl_y rfl rfl rfl) ((yrW_adr _ _ _ _).trans (yrW_adr _ _ _ _).symm) hl rfl rfl (Nat.le_of_ble_eq_true rfl) ⟨⟨rfl, rfl⟩, Nat.le_of_ble_eq_true rfl, Nat.le_of_ble_eq_true rfl⟩ ⟨Nat.zero_le _, Nat.zero_le _⟩ dX5_find_17 (fun H locs hP hD hS => ?_)
  refine lv_istore (lv' := [(4, .int (vd (dOK (g 14) (g 15) (g 16) (upd (g 12) k (mx ((g 12) k) lo)) (upd (g 13) k (mn ((g 13) k) hi)) (z 1)) (dMV (g 14) (g 15) (g 16) (upd (g 12) k (mx ((g 12) k) lo)) (upd (g 13) k (mn ((g 13) k) hi)) (g 17) (g 18) (z 1)))), (0, .ref (ad 70)), (1, .int (nI k)), (2, .int lo), (3, .int hi)]) hx hb dX5_find_20 hl (by decide) rfl (fun ls hl => ?_)
  refine lv_iload hx hb dX5_find_22 (lv_at hl 0 rfl) ?_
  refine q_callSV (As := [.int (vd (dOK (g 14) (g 15) (g 16) (upd (g 12) k (mx ((g 12) k) lo)) (upd (g 13) k (mn ((g 13) k) hi)) (z 1)) (dMV (g 14) (g 15) (g 16) (upd (g 12) k (mx ((g 12) k) lo)) (upd (g 13) k (mn ((g 13) k) hi)) (g 17) (g 18) (z 1)))]) hx hb hml hown hT hK hP hD hS hA (c_X5_needDating l D cA (vd (dOK (g 14) (g 15) (g 16) (upd (g 12) k (mx ((g 12) k) lo)) (upd (g 13) k (mn ((g 13) k) hi)) (z 1)) (dMV (g 14) (g 15) (g 16) (upd (g 12) k (mx ((g 12) k) lo)) (upd (g 13) k (mn ((g 13) k) hi)) (g 17) (g 18) (z 1))) (fun h => Bool.false_ne_true ((vd_m1 dMV_le h).symm.trans hd9))) k_X5_needDating kl_X5_128 hl rfl rfl (Nat.le_of_ble_eq_true rfl) ⟨⟨rfl, rfl⟩, Nat.le_of_ble_eq_true rfl, Nat.le_of_ble_eq_true rfl⟩ ⟨Nat.zero_le _, Nat.zero_le _⟩ dX5_find_24 (fun H locs hP hD hS => ?_)
  refine lv_iload hx hb dX5_find_27 (lv_at hl 0 rfl) ?_
  exact q_iret hx hb hr hlk (by rfl) hP hS dX5_find_29
abbrev rm_X5_findx4 : Room := { frames := 7, cells := 1, slots := 6, locals := 139 }
set_option maxRecDepth 100000 in
set_option maxHeartbeats 4000000 in
theorem c_X5_findx4 (l : Launch) (htr : l.stackTraces = false) (D : va_G) (cA : ClassId) (ad : Nat → Nat) (g : Nat → Nat → Int32) (z : Nat → Nat) (k : Nat) (lo : Int32) (hi : Int32) (hk : k < (z 0)) (hc : (z 0) ≤ 16) (hlo : ¬ lo < nI 0 ∧ lo ≤ nI 999) (hhi : ¬ hi < lo ∧ hi ≤ nI 999) (hE : ∀ k, k < (z 1) → q_r ((g 14) k) 16 ∧ q_r ((g 15) k) 16) (ht : (z 1) ≤ 40) (hd9 : dOK (g 14) (g 15) (g 16) (upd (g 12) k (mx ((g 12) k) lo)) (upd (g 13) k (mn ((g 13) k) hi)) (z 1) = false) : q_CX l yX5_find [Cond.code yX5_find cX5_find 5 (some .int)] rm_X5_findx4 D cA [.ref (ad 70), .int (nI k), .int lo, .int hi] (rlW cA ad g z) "java/lang/IllegalStateException" (rlW cA ad (gs (gs (gs (gs (gs (gs g 12 (bif dOK (g 14) (g 15) (g 16) (upd (g 12) k (mx ((g 12) k) lo)) (upd (g 13) k (mn ((g 13) k) hi)) (z 1) then (upd (g 12) k (mx ((g 12) k) lo)) else (g 12))) 13 (bif dOK (g 14) (g 15) (g 16) (upd (g 12) k (mx ((g 12) k) lo)) (upd (g 13) k (mn ((g 13) k) hi)) (z 1) then (upd (g 13) k (mn ((g 13) k) hi)) else (g 13))) 17 (bif dOK (g 14) (g 15) (g 16) (upd (g 12) k (mx ((g 12) k) lo)) (upd (g 13) k (mn ((g 13) k) hi)) (z 1) then itF (g 14) (g 15) (g 16) (upd (g 12) k (mx ((g 12) k) lo)) (z 1) 16 else (g 17))) 18 (bif dOK (g 14) (g 15) (g 16) (upd (g 12) k (mx ((g 12) k) lo)) (upd (g 13) k (mn ((g 13) k) hi)) (z 1) then itL (g 14) (g 15) (g 16) (upd (g 13) k (mn ((g 13) k) hi)) (z 1) 16 else (g 18))) 19 (itF (g 14) (g 15) (g 16) (upd (g 12) k (mx ((g 12) k) lo)) (z 1) 16)) 20 (itL (g 14) (g 15) (g 16) (upd (g 13) k (mn ((g 13) k) hi)) (z 1) 16)) z) := by
  refine q_startX RX5 (by decide +kernel) rfl (Nat.le_of_ble_eq_true rfl) ?_
  intro p e s m below meth c A args H locs ls hx hb hr hml hown hT hlk hP hK hD hA hS hl hout hX hZ
  have hl : lv_has ls 5 [(0, .ref (ad 70)), (1, .int (nI k)), (2, .int lo), (3, .int hi)] := hl
  refine lv_aload_n hx hb dX5_find_0 rfl (lv_at hl 0 rfl) ?_
  refine lv_iload_n hx hb dX5_find_1 rfl (lv_at hl 1 rfl) ?_
  refine q_callVW (As := [.int (nI k)]) (w1 := rlW cA ad g z) hx hb hml hown hT hK hP hD hS hA (c_X5_needMention l D cA ad g z (nI k) (q_r_nI (by omega)) (show (z 0) ≤ 16 by omega)) k_X5_needMention kl_X5_131 (q0 := 0) rfl rfl rfl ((rlW_adr _ _ _ _).trans (rlW_adr _ _ _ _).symm) hl rfl rfl (Nat.le_of_ble_eq_true rfl) ⟨⟨rfl, rfl⟩, Nat.le_of_ble_eq_true rfl, Nat.le_of_ble_eq_true rfl⟩ ⟨Nat.zero_le _, Nat.zero_le _⟩ dX5_find_2 (fun H locs hP hD hS => ?_)
  refine lv_iload_n hx hb dX5_find_5 rfl (lv_at hl 2 rfl) ?_
  refine lv_iload_n hx hb dX5_find_6 rfl (lv_at hl 3 rfl) ?_
  refine q_callSV (As := [.int lo, .int hi]) hx hb hml hown hT hK hP hD hS hA (c_X5_needYears l D cA lo hi hlo hhi) k_X5_needYears kl_X5_134 hl rfl rfl (Nat.le_of_ble_eq_true rfl) ⟨⟨rfl, rfl⟩, Nat.le_of_ble_eq_true rfl, Nat.le_of_ble_eq_true rfl⟩ ⟨Nat.zero_le _, Nat.zero_le _⟩ dX5_find_7 (fun H locs hP hD hS => ?_)
  refine lv_aload_n hx hb dX5_find_10 rfl (lv_at hl 0 rfl) ?_
  refine q_get hx hb hT hown hK hP kw_X5 0 rfl rfl 10 (by decide) kf_X5_52 rfl (v := .ref (ad 71)) rfl dX5_find_11 ?_
  refine lv_iload_n hx hb dX5_find_14 rfl (lv_at hl 1 rfl) ?_
  refine lv_iload_n hx hb dX5_find_15 rfl (lv_at hl 2 rfl) ?_
  refine lv_iload_n hx hb dX5_find_16 rfl (lv_at hl 3 rfl) ?_
  refine q_callIS (As := [.int (nI k), .int lo, .int hi]) (r := vd (dOK (g 14) (g 15) (g 16) (upd (g 12) k (mx ((g 12) k) lo)) (upd (g 13) k (mn ((g 13) k) hi)) (z 1)) (dMV (g 14) (g 15) (g 16) (upd (g 12) k (mx ((g 12) k) lo)) (upd (g 13) k (mn ((g 13) k) hi)) (g 17) (g 18) (z 1))) (wc := yrW cA ad g z) (w1 := yrW cA ad (gs (gs (gs (gs (gs (gs g 12 (bif dOK (g 14) (g 15) (g 16) (upd (g 12) k (mx ((g 12) k) lo)) (upd (g 13) k (mn ((g 13) k) hi)) (z 1) then (upd (g 12) k (mx ((g 12) k) lo)) else (g 12))) 13 (bif dOK (g 14) (g 15) (g 16) (upd (g 12) k (mx ((g 12) k) lo)) (upd (g 13) k (mn ((g 13) k) hi)) (z 1) then (upd (g 13) k (mn ((g 13) k) hi)) else (g 13))) 17 (bif dOK (g 14) (g 15) (g 16) (upd (g 12) k (mx ((g 12) k) lo)) (upd (g 13) k (mn ((g 13) k) hi)) (z 1) then itF (g 14) (g 15) (g 16) (upd (g 12) k (mx ((g 12) k) lo)) (z 1) 16 else (g 17))) 18 (bif dOK (g 14) (g 15) (g 16) (upd (g 12) k (mx ((g 12) k) lo)) (upd (g 13) k (mn ((g 13) k) hi)) (z 1) then itL (g 14) (g 15) (g 16) (upd (g 13) k (mn ((g 13) k) hi)) (z 1) 16 else (g 18))) 19 (itF (g 14) (g 15) (g 16) (upd (g 12) k (mx ((g 12) k) lo)) (z 1) 16)) 20 (itL (g 14) (g 15) (g 16) (upd (g 13) k (mn ((g 13) k) hi)) (z 1) 16)) z) (ws1 := rlW cA ad (gs (gs (gs (gs (gs (gs g 12 (bif dOK (g 14) (g 15) (g 16) (upd (g 12) k (mx ((g 12) k) lo)) (upd (g 13) k (mn ((g 13) k) hi)) (z 1) then (upd (g 12) k (mx ((g 12) k) lo)) else (g 12))) 13 (bif dOK (g 14) (g 15) (g 16) (upd (g 12) k (mx ((g 12) k) lo)) (upd (g 13) k (mn ((g 13) k) hi)) (z 1) then (upd (g 13) k (mn ((g 13) k) hi)) else (g 13))) 17 (bif dOK (g 14) (g 15) (g 16) (upd (g 12) k (mx ((g 12) k) lo)) (upd (g 13) k (mn ((g 13) k) hi)) (z 1) then itF (g 14) (g 15) (g 16) (upd (g 12) k (mx ((g 12) k) lo)) (z 1) 16 else (g 17))) 18 (bif dOK (g 14) (g 15) (g 16) (upd (g 12) k (mx ((g 12) k) lo)) (upd (g 13) k (mn ((g 13) k) hi)) (z 1) then itL (g 14) (g 15) (g 16) (upd (g 13) k (mn ((g 13) k) hi)) (z 1) 16 else (g 18))) 19 (itF (g 14) (g 15) (g 16) (upd (g 12) k (mx ((g 12) k) lo)) (z 1) 16)) 20 (itL (g 14) (g 15) (g 16) (upd (g 13) k (mn ((g 13) k) hi)) (z 1) 16)) z) hx hb hml hown hT hK hP hD hS hA (c_X4_narrow l D cA ad g z k lo hi (show k < 16 by omega) hE (show (z 1) ≤ 40 by omega)) k_X4_narrow kl_X5_137 (q0 := 0) rfl rfl rfl (rl_a cA ad g z) (psW cA ad g z ++ gpW cA ad g z) rfl (rl_y rfl rfl rfl) ((yrW_adr _ _ _ _).trans (yrW_adr _ _ _ _).symm) hl rfl rfl (Nat.le_of_ble_eq_true rfl) ⟨⟨rfl, rfl⟩, Nat.le_of_ble_eq_true rfl, Nat.le_of_ble_eq_true rfl⟩ ⟨Nat.zero_le _, Nat.zero_le _⟩ dX5_find_17 (fun H locs hP hD hS => ?_)
  refine lv_istore (lv' := [(4, .int (vd (dOK (g 14) (g 15) (g 16) (upd (g 12) k (mx ((g 12) k) lo)) (upd (g 13) k (mn ((g 13) k) hi)) (z 1)) (dMV (g 14) (g 15) (g 16) (upd (g 12) k (mx ((g 12) k) lo)) (upd (g 13) k (mn ((g 13) k) hi)) (g 17) (g 18) (z 1)))), (0, .ref (ad 70)), (1, .int (nI k)), (2, .int lo), (3, .int hi)]) hx hb dX5_find_20 hl (by decide) rfl (fun ls hl => ?_)
  refine lv_iload hx hb dX5_find_22 (lv_at hl 0 rfl) ?_
  exact q_callXS (As := [.int (vd (dOK (g 14) (g 15) (g 16) (upd (g 12) k (mx ((g 12) k) lo)) (upd (g 13) k (mn ((g 13) k) hi)) (z 1)) (dMV (g 14) (g 15) (g 16) (upd (g 12) k (mx ((g 12) k) lo)) (upd (g 13) k (mn ((g 13) k) hi)) (g 17) (g 18) (z 1)))]) hx hb hml hown hT hK hP hD hS hA hout hlk hX hZ (c_X5_needDatingx l htr D cA (vd (dOK (g 14) (g 15) (g 16) (upd (g 12) k (mx ((g 12) k) lo)) (upd (g 13) k (mn ((g 13) k) hi)) (z 1)) (dMV (g 14) (g 15) (g 16) (upd (g 12) k (mx ((g 12) k) lo)) (upd (g 13) k (mn ((g 13) k) hi)) (g 17) (g 18) (z 1))) (congrArg (fun o => vd o _) hd9)) k_X5_needDating kl_X5_128 hl rfl rfl (Nat.le_of_ble_eq_true rfl) ⟨⟨rfl, rfl⟩, Nat.le_of_ble_eq_true rfl, Nat.le_of_ble_eq_true rfl⟩ ⟨Nat.le_of_ble_eq_true rfl, Nat.le_of_ble_eq_true rfl⟩ dX5_find_24
abbrev rm_X5_wouldMove : Room := { frames := 5, cells := 0, slots := 0, locals := 115 }
set_option maxRecDepth 100000 in
set_option maxHeartbeats 4000000 in
theorem c_X5_wouldMove (l : Launch) (D : va_G) (cA : ClassId) (ad : Nat → Nat) (g : Nat → Nat → Int32) (z : Nat → Nat) (k : Nat) (lo : Int32) (hi : Int32) (hk : k < (z 0)) (hc : (z 0) ≤ 16) (hlo : ¬ lo < nI 0 ∧ lo ≤ nI 999) (hhi : ¬ hi < lo ∧ hi ≤ nI 999) (hE : ∀ k, k < (z 1) → q_r ((g 14) k) 16 ∧ q_r ((g 15) k) 16) (ht : (z 1) ≤ 40) : q_CI l yX5_wouldMove [Cond.code yX5_wouldMove cX5_wouldMove 4 (some .int)] rm_X5_wouldMove D cA [.ref (ad 70), .int (nI k), .int lo, .int hi] (rlW cA ad g z) (vd (dOK (g 14) (g 15) (g 16) (upd (g 12) k (mx ((g 12) k) lo)) (upd (g 13) k (mn ((g 13) k) hi)) (z 1)) (dMV (g 14) (g 15) (g 16) (upd (g 12) k (mx ((g 12) k) lo)) (upd (g 13) k (mn ((g 13) k) hi)) (g 17) (g 18) (z 1))) (rlW cA ad (gs (gs g 19 (itF (g 14) (g 15) (g 16) (upd (g 12) k (mx ((g 12) k) lo)) (z 1) 16)) 20 (itL (g 14) (g 15) (g 16) (upd (g 13) k (mn ((g 13) k) hi)) (z 1) 16)) z) := by
  refine q_startI RX5 (by decide +kernel) rfl (Nat.le_of_ble_eq_true rfl) ?_
  intro p e s m below meth c A args H locs ls hx hb hr hml hown hT hlk hP hK hD hA hS hl
  have hl : lv_has ls 4 [(0, .ref (ad 70)), (1, .int (nI k)), (2, .int lo), (3, .int hi)] := hl
  refine lv_aload_n hx hb dX5_wouldMove_0 rfl (lv_at hl 0 rfl) ?_
  refine lv_iload_n hx hb dX5_wouldMove_1 rfl (lv_at hl 1 rfl) ?_
  refine q_callVW (As := [.int (nI k)]) (w1 := rlW cA ad g z) hx hb hml hown hT hK hP hD hS hA (c_X5_needMention l D cA ad g z (nI k) (q_r_nI (by omega)) (show (z 0) ≤ 16 by omega)) k_X5_needMention kl_X5_131 (q0 := 0) rfl rfl rfl ((rlW_adr _ _ _ _).trans (rlW_adr _ _ _ _).symm) hl rfl rfl (Nat.le_of_ble_eq_true rfl) ⟨⟨rfl, rfl⟩, Nat.le_of_ble_eq_true rfl, Nat.le_of_ble_eq_true rfl⟩ ⟨Nat.zero_le _, Nat.zero_le _⟩ dX5_wouldMove_2 (fun H locs hP hD hS => ?_)
  refine lv_iload_n hx hb dX5_wouldMove_5 rfl (lv_at hl 2 rfl) ?_
  refine lv_iload_n hx hb dX5_wouldMove_6 rfl (lv_at hl 3 rfl) ?_
  refine q_callSV (As := [.int lo, .int hi]) hx hb hml hown hT hK hP hD hS hA (c_X5_needYears l D cA lo hi hlo hhi) k_X5_needYears kl_X5_134 hl rfl rfl (Nat.le_of_ble_eq_true rfl) ⟨⟨rfl, rfl⟩, Nat.le_of_ble_eq_true rfl, Nat.le_of_ble_eq_true rfl⟩ ⟨Nat.zero_le _, Nat.zero_le _⟩ dX5_wouldMove_7 (fun H locs hP hD hS => ?_)
  refine lv_aload_n hx hb dX5_wouldMove_10 rfl (lv_at hl 0 rfl) ?_
  refine q_get hx hb hT hown hK hP kw_X5 0 rfl rfl 10 (by decide) kf_X5_52 rfl (v := .ref (ad 71)) rfl dX5_wouldMove_11 ?_
  refine lv_iload_n hx hb dX5_wouldMove_14 rfl (lv_at hl 1 rfl) ?_
  refine lv_iload_n hx hb dX5_wouldMove_15 rfl (lv_at hl 2 rfl) ?_
  refine lv_iload_n hx hb dX5_wouldMove_16 rfl (lv_at hl 3 rfl) ?_
  refine q_callIS (As := [.int (nI k), .int lo, .int hi]) (r := vd (dOK (g 14) (g 15) (g 16) (upd (g 12) k (mx ((g 12) k) lo)) (upd (g 13) k (mn ((g 13) k) hi)) (z 1)) (dMV (g 14) (g 15) (g 16) (upd (g 12) k (mx ((g 12) k) lo)) (upd (g 13) k (mn ((g 13) k) hi)) (g 17) (g 18) (z 1))) (wc := yrW cA ad g z) (w1 := yrW cA ad (gs (gs g 19 (itF (g 14) (g 15) (g 16) (upd (g 12) k (mx ((g 12) k) lo)) (z 1) 16)) 20 (itL (g 14) (g 15) (g 16) (upd (g 13) k (mn ((g 13) k) hi)) (z 1) 16)) z) (ws1 := rlW cA ad (gs (gs g 19 (itF (g 14) (g 15) (g 16) (upd (g 12) k (mx ((g 12) k) lo)) (z 1) 16)) 20 (itL (g 14) (g 15) (g 16) (upd (g 13) k (mn ((g 13) k) hi)) (z 1) 16)) z) hx hb hml hown hT hK hP hD hS hA (c_X4_tryNarrow l D cA ad g z k lo hi (show k < 16 by omega) hE (show (z 1) ≤ 40 by omega)) k_X4_tryNarrow kl_X5_140 (q0 := 0) rfl rfl rfl (rl_a cA ad g z) (psW cA ad g z ++ gpW cA ad g z) rfl (rl_y rfl rfl rfl) ((yrW_adr _ _ _ _).trans (yrW_adr _ _ _ _).symm) hl rfl rfl (Nat.le_of_ble_eq_true rfl) ⟨⟨rfl, rfl⟩, Nat.le_of_ble_eq_true rfl, Nat.le_of_ble_eq_true rfl⟩ ⟨Nat.zero_le _, Nat.zero_le _⟩ dX5_wouldMove_17 (fun H locs hP hD hS => ?_)
  exact q_iret hx hb hr hlk (by rfl) hP hS dX5_wouldMove_20
abbrev rm_X5_findx : Room := { frames := 7, cells := 1, slots := 6, locals := 103 }
set_option maxRecDepth 100000 in
set_option maxHeartbeats 4000000 in
theorem c_X5_findx (l : Launch) (htr : l.stackTraces = false) (D : va_G) (cA : ClassId) (ad : Nat → Nat) (g : Nat → Nat → Int32) (z : Nat → Nat) (w : Int32) (lo : Int32) (hi : Int32) (hw : ¬ q_r w (z 0)) (hc : (z 0) ≤ 16) : q_CX l yX5_find [Cond.code yX5_find cX5_find 5 (some .int)] rm_X5_findx D cA [.ref (ad 70), .int w, .int lo, .int hi] (rlW cA ad g z) "java/lang/IndexOutOfBoundsException" (rlW cA ad g z) := by
  refine q_startX RX5 (by decide +kernel) rfl (Nat.le_of_ble_eq_true rfl) ?_
  intro p e s m below meth c A args H locs ls hx hb hr hml hown hT hlk hP hK hD hA hS hl hout hX hZ
  have hl : lv_has ls 5 [(0, .ref (ad 70)), (1, .int w), (2, .int lo), (3, .int hi)] := hl
  refine lv_aload_n hx hb dX5_find_0 rfl (lv_at hl 0 rfl) ?_
  refine lv_iload_n hx hb dX5_find_1 rfl (lv_at hl 1 rfl) ?_
  exact q_callXW (As := [.int w]) hx hb hml hown hT hK hP hD hS hA hout hlk hX hZ (c_X5_needMentionx l htr D cA ad g z w hw (show (z 0) ≤ 16 by omega)) k_X5_needMention kl_X5_131 (q0 := 0) rfl rfl rfl hl rfl rfl (Nat.le_of_ble_eq_true rfl) ⟨⟨rfl, rfl⟩, Nat.le_of_ble_eq_true rfl, Nat.le_of_ble_eq_true rfl⟩ ⟨Nat.le_of_ble_eq_true rfl, Nat.le_of_ble_eq_true rfl⟩ dX5_find_2
abbrev rm_X5_findx2 : Room := { frames := 8, cells := 1, slots := 6, locals := 125 }
set_option maxRecDepth 100000 in
set_option maxHeartbeats 4000000 in
theorem c_X5_findx2 (l : Launch) (htr : l.stackTraces = false) (D : va_G) (cA : ClassId) (ad : Nat → Nat) (g : Nat → Nat → Int32) (z : Nat → Nat) (w : Int32) (lo : Int32) (hi : Int32) (hw : q_r w (z 0)) (hc : (z 0) ≤ 16) (hlo : ¬ (¬ lo < nI 0 ∧ lo ≤ nI 999)) : q_CX l yX5_find [Cond.code yX5_find cX5_find 5 (some .int)] rm_X5_findx2 D cA [.ref (ad 70), .int w, .int lo, .int hi] (rlW cA ad g z) "java/lang/IllegalArgumentException" (rlW cA ad g z) := by
  refine q_startX RX5 (by decide +kernel) rfl (Nat.le_of_ble_eq_true rfl) ?_
  intro p e s m below meth c A args H locs ls hx hb hr hml hown hT hlk hP hK hD hA hS hl hout hX hZ
  have hl : lv_has ls 5 [(0, .ref (ad 70)), (1, .int w), (2, .int lo), (3, .int hi)] := hl
  refine lv_aload_n hx hb dX5_find_0 rfl (lv_at hl 0 rfl) ?_
  refine lv_iload_n hx hb dX5_find_1 rfl (lv_at hl 1 rfl) ?_
  refine q_callVW (As := [.int w]) (w1 := rlW cA ad g z) hx hb hml hown hT hK hP hD hS hA (c_X5_needMention l D cA ad g z w hw (show (z 0) ≤ 16 by omega)) k_X5_needMention kl_X5_131 (q0 := 0) rfl rfl rfl ((rlW_adr _ _ _ _).trans (rlW_adr _ _ _ _).symm) hl rfl rfl (Nat.le_of_ble_eq_true rfl) ⟨⟨rfl, rfl⟩, Nat.le_of_ble_eq_true rfl, Nat.le_of_ble_eq_true rfl⟩ ⟨Nat.zero_le _, Nat.zero_le _⟩ dX5_find_2 (fun H locs hP hD hS => ?_)
  refine lv_iload_n hx hb dX5_find_5 rfl (lv_at hl 2 rfl) ?_
  refine lv_iload_n hx hb dX5_find_6 rfl (lv_at hl 3 rfl) ?_
  exact q_callXS (As := [.int lo, .int hi]) hx hb hml hown hT hK hP hD hS hA hout hlk hX hZ (c_X5_needYearsx l htr D cA lo hi hlo) k_X5_needYears kl_X5_134 hl rfl rfl (Nat.le_of_ble_eq_true rfl) ⟨⟨rfl, rfl⟩, Nat.le_of_ble_eq_true rfl, Nat.le_of_ble_eq_true rfl⟩ ⟨Nat.le_of_ble_eq_true rfl, Nat.le_of_ble_eq_true rfl⟩ dX5_find_7
abbrev rm_X5_findx3 : Room := { frames := 8, cells := 1, slots := 6, locals := 125 }
set_option maxRecDepth 100000 in
set_option maxHeartbeats 4000000 in
theorem c_X5_findx3 (l : Launch) (htr : l.stackTraces = false) (D : va_G) (cA : ClassId) (ad : Nat → Nat) (g : Nat → Nat → Int32) (z : Nat → Nat) (w : Int32) (lo : Int32) (hi : Int32) (hw : q_r w (z 0)) (hc : (z 0) ≤ 16) (hlo : ¬ lo < nI 0 ∧ lo ≤ nI 999) (hhi : ¬ (¬ hi < lo ∧ hi ≤ nI 999)) : q_CX l yX5_find [Cond.code yX5_find cX5_find 5 (some .int)] rm_X5_findx3 D cA [.ref (ad 70), .int w, .int lo, .int hi] (rlW cA ad g z) "java/lang/IllegalArgumentException" (rlW cA ad g z) := by
  refine q_startX RX5 (by decide +kernel) rfl (Nat.le_of_ble_eq_true rfl) ?_
  intro p e s m below meth c A args H locs ls hx hb hr hml hown hT hlk hP hK hD hA hS hl hout hX hZ
  have hl : lv_has ls 5 [(0, .ref (ad 70)), (1, .int w), (2, .int lo), (3, .int hi)] := hl
  refine lv_aload_n hx hb dX5_find_0 rfl (lv_at hl 0 rfl) ?_
  refine lv_iload_n hx hb dX5_find_1 rfl (lv_at hl 1 rfl) ?_
  refine q_callVW (As := [.int w]) (w1 := rlW cA ad g z) hx hb hml hown hT hK hP hD hS hA (c_X5_needMention l D cA ad g z w hw (show (z 0) ≤ 16 by omega)) k_X5_needMention kl_X5_131 (q0 := 0) rfl rfl rfl ((rlW_adr _ _ _ _).trans (rlW_adr _ _ _ _).symm) hl rfl rfl (Nat.le_of_ble_eq_true rfl) ⟨⟨rfl, rfl⟩, Nat.le_of_ble_eq_true rfl, Nat.le_of_ble_eq_true rfl⟩ ⟨Nat.zero_le _, Nat.zero_le _⟩ dX5_find_2 (fun H locs hP hD hS => ?_)
  refine lv_iload_n hx hb dX5_find_5 rfl (lv_at hl 2 rfl) ?_
  refine lv_iload_n hx hb dX5_find_6 rfl (lv_at hl 3 rfl) ?_
  exact q_callXS (As := [.int lo, .int hi]) hx hb hml hown hT hK hP hD hS hA hout hlk hX hZ (c_X5_needYearsx2 l htr D cA lo hi hlo hhi) k_X5_needYears kl_X5_134 hl rfl rfl (Nat.le_of_ble_eq_true rfl) ⟨⟨rfl, rfl⟩, Nat.le_of_ble_eq_true rfl, Nat.le_of_ble_eq_true rfl⟩ ⟨Nat.le_of_ble_eq_true rfl, Nat.le_of_ble_eq_true rfl⟩ dX5_find_7
abbrev rm_X5_wouldMovex : Room := { frames := 7, cells := 1, slots := 6, locals := 103 }
set_option maxRecDepth 100000 in
set_option maxHeartbeats 4000000 in
theorem c_X5_wouldMovex (l : Launch) (htr : l.stackTraces = false) (D : va_G) (cA : ClassId) (ad : Nat → Nat) (g : Nat → Nat → Int32) (z : Nat → Nat) (w : Int32) (lo : Int32) (hi : Int32) (hw : ¬ q_r w (z 0)) (hc : (z 0) ≤ 16) : q_CX l yX5_wouldMove [Cond.code yX5_wouldMove cX5_wouldMove 4 (some .int)] rm_X5_wouldMovex D cA [.ref (ad 70), .int w, .int lo, .int hi] (rlW cA ad g z) "java/lang/IndexOutOfBoundsException" (rlW cA ad g z) := by
  refine q_startX RX5 (by decide +kernel) rfl (Nat.le_of_ble_eq_true rfl) ?_
  intro p e s m below meth c A args H locs ls hx hb hr hml hown hT hlk hP hK hD hA hS hl hout hX hZ
  have hl : lv_has ls 4 [(0, .ref (ad 70)), (1, .int w), (2, .int lo), (3, .int hi)] := hl
  refine lv_aload_n hx hb dX5_wouldMove_0 rfl (lv_at hl 0 rfl) ?_
  refine lv_iload_n hx hb dX5_wouldMove_1 rfl (lv_at hl 1 rfl) ?_
  exact q_callXW (As := [.int w]) hx hb hml hown hT hK hP hD hS hA hout hlk hX hZ (c_X5_needMentionx l htr D cA ad g z w hw (show (z 0) ≤ 16 by omega)) k_X5_needMention kl_X5_131 (q0 := 0) rfl rfl rfl hl rfl rfl (Nat.le_of_ble_eq_true rfl) ⟨⟨rfl, rfl⟩, Nat.le_of_ble_eq_true rfl, Nat.le_of_ble_eq_true rfl⟩ ⟨Nat.le_of_ble_eq_true rfl, Nat.le_of_ble_eq_true rfl⟩ dX5_wouldMove_2
abbrev rm_X5_wouldMovex2 : Room := { frames := 8, cells := 1, slots := 6, locals := 125 }
set_option maxRecDepth 100000 in
set_option maxHeartbeats 4000000 in
theorem c_X5_wouldMovex2 (l : Launch) (htr : l.stackTraces = false) (D : va_G) (cA : ClassId) (ad : Nat → Nat) (g : Nat → Nat → Int32) (z : Nat → Nat) (w : Int32) (lo : Int32) (hi : Int32) (hw : q_r w (z 0)) (hc : (z 0) ≤ 16) (hlo : ¬ (¬ lo < nI 0 ∧ lo ≤ nI 999)) : q_CX l yX5_wouldMove [Cond.code yX5_wouldMove cX5_wouldMove 4 (some .int)] rm_X5_wouldMovex2 D cA [.ref (ad 70), .int w, .int lo, .int hi] (rlW cA ad g z) "java/lang/IllegalArgumentException" (rlW cA ad g z) := by
  refine q_startX RX5 (by decide +kernel) rfl (Nat.le_of_ble_eq_true rfl) ?_
  intro p e s m below meth c A args H locs ls hx hb hr hml hown hT hlk hP hK hD hA hS hl hout hX hZ
  have hl : lv_has ls 4 [(0, .ref (ad 70)), (1, .int w), (2, .int lo), (3, .int hi)] := hl
  refine lv_aload_n hx hb dX5_wouldMove_0 rfl (lv_at hl 0 rfl) ?_
  refine lv_iload_n hx hb dX5_wouldMove_1 rfl (lv_at hl 1 rfl) ?_
  refine q_callVW (As := [.int w]) (w1 := rlW cA ad g z) hx hb hml hown hT hK hP hD hS hA (c_X5_needMention l D cA ad g z w hw (show (z 0) ≤ 16 by omega)) k_X5_needMention kl_X5_131 (q0 := 0) rfl rfl rfl ((rlW_adr _ _ _ _).trans (rlW_adr _ _ _ _).symm) hl rfl rfl (Nat.le_of_ble_eq_true rfl) ⟨⟨rfl, rfl⟩, Nat.le_of_ble_eq_true rfl, Nat.le_of_ble_eq_true rfl⟩ ⟨Nat.zero_le _, Nat.zero_le _⟩ dX5_wouldMove_2 (fun H locs hP hD hS => ?_)
  refine lv_iload_n hx hb dX5_wouldMove_5 rfl (lv_at hl 2 rfl) ?_
  refine lv_iload_n hx hb dX5_wouldMove_6 rfl (lv_at hl 3 rfl) ?_
  exact q_callXS (As := [.int lo, .int hi]) hx hb hml hown hT hK hP hD hS hA hout hlk hX hZ (c_X5_needYearsx l htr D cA lo hi hlo) k_X5_needYears kl_X5_134 hl rfl rfl (Nat.le_of_ble_eq_true rfl) ⟨⟨rfl, rfl⟩, Nat.le_of_ble_eq_true rfl, Nat.le_of_ble_eq_true rfl⟩ ⟨Nat.le_of_ble_eq_true rfl, Nat.le_of_ble_eq_true rfl⟩ dX5_wouldMove_7
