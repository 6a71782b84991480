def dtN : Nat := 33000
def dtD (a b w lo hi F0 L0 : Nat → Int32) (t n : Nat) : dtT := dtR a b w lo hi t n dtN (copyTo F0 lo n, copyTo L0 hi n, true, true)
def dtH (a b w lo hi F0 L0 : Nat → Int32) (t n : Nat) : Prop := dtE a b w lo hi t n dtN (copyTo F0 lo n, copyTo L0 hi n, true, true)
theorem q_nIne {n : Nat} (h : n ≤ 16) : ¬ nI n = (-1) := by
  have e : ∀ n, n ≤ 16 → ¬ nI n = (-1) := by decide +kernel
  exact e n h
theorem mx_t {x y : Int32} (h : y ≤ x) : x = mx x y := by rw [mx, if_neg (q_nlt3 h)]
theorem mx_f {x y : Int32} (h : ¬ y ≤ x) : y = mx x y := by rw [mx, if_pos (q_lt3 h)]
theorem mn_t {x y : Int32} (h : x ≤ y) : x = mn x y := by rw [mn, if_neg (q_nlt3 h)]
theorem mn_f {x y : Int32} (h : ¬ x ≤ y) : y = mn x y := by rw [mn, if_pos (q_lt3 h)]
abbrev rm_X6_reason : Room := { frames := 3, cells := 0, slots := 0, locals := 70 }
set_option maxRecDepth 100000 in
set_option maxHeartbeats 4000000 in
theorem c_X6_reason (l : Launch) (D : va_G) (cA : ClassId) (ad : Nat → Nat) (g : Nat → Nat → Int32) (z : Nat → Nat) (i : Nat) (j : Nat) (hi : i < (z 0)) (hj : j < (z 0)) (hc : (z 0) ≤ 16) (hPo : ∀ k, k < (z 0) → (g 3) k = (-1) ∨ q_r ((g 3) k) 8) : q_CI l yX6_reason [Cond.code yX6_reason cX6_reason 4 (some .int)] rm_X6_reason D cA [.ref (ad 80), .int (nI i), .int (nI j)] (mdW cA ad g z) (nI (rsN g (z 0) i j)) (mdW cA ad g z) := by
  refine q_startI RX6 (by decide +kernel) rfl (Nat.le_of_ble_eq_true rfl) ?_
  intro p e s m below meth c A args H locs ls hx hb hr hml hown hT hlk hP hK hD hA hS hl
  have hl : lv_has ls 4 [(0, .ref (ad 80)), (1, .int (nI i)), (2, .int (nI j))] := hl
  have hw9 : wtN g i j ≤ 13 := wtN_le g i j
  have zqL19 : ∀ (fu : Nat), ∀ (k : Nat), (6 ≤ k + fu) → (2 ≤ k) → (k ≤ 5) → (¬ (g 22) i = (g 22) j) → (∀ r, 2 ≤ r → r < k → hrO g (z 0) r i j (z 0) = false) → ∀ (H : Heap) (locs : List Loc) (ls : Array Slot), va_P D vwCl (mdW cA ad g z) H → va_D A (mdW cA ad g z) → va_S A s.heap H locs → lv_has ls 4 [(0, .ref (ad 80)), (1, .int (nI i)), (2, .int (nI j)), (3, .int (nI k))] → W p l e rm_X6_reason s m args below meth c H locs 0 0 (q_GI D (nI (rsN g (z 0) i j)) (mdW cA ad g z) A below args s) (F0 m 19 ls []) := by
    intro fu
    induction fu with
    | zero =>
      intro k hfu hk2 hk5 hne hp9 H locs ls hP hD hS hl
      exfalso; omega
    | succ fu ih19 =>
      intro k hfu hk2 hk5 hne hp9 H locs ls hP hD hS hl
      refine lv_iload_n hx hb dX6_reason_19 rfl (lv_at hl 3 rfl) ?_
      refine lv_iconst (v := nI 5) hx hb dX6_reason_20 (by decide +kernel) ?_
      refine lv_icmp_ge (tgt := 42) hx hb dX6_reason_21 (by decide) (fun c_21 => ?_) (fun c_21 => ?_)
      · have c_21 := nI_le1 (a := 5) (b := k) (by omega) (by omega) c_21
        refine lv_aload_n hx hb dX6_reason_42 rfl (lv_at hl 0 rfl) ?_
        refine lv_iload_n hx hb dX6_reason_43 rfl (lv_at hl 1 rfl) ?_
        refine lv_iload_n hx hb dX6_reason_44 rfl (lv_at hl 2 rfl) ?_
        refine q_callIW (As := [.int (nI i), .int (nI j)]) (r := nI (wtN g i j)) (w1 := mdW cA ad g z) hx hb hml hown hT hK hP hD hS hA (c_X6_weightOf l D cA ad g z i j (show i < 16 by omega) (show j < 16 by omega)) k_X6_weightOf kl_X6_139 (q0 := 0) rfl rfl rfl ((mdW_adr _ _ _ _).trans (mdW_adr _ _ _ _).symm) hl rfl rfl (Nat.le_of_ble_eq_true rfl) ⟨⟨rfl, rfl⟩, Nat.le_of_ble_eq_true rfl, Nat.le_of_ble_eq_true rfl⟩ ⟨Nat.zero_le _, Nat.zero_le _⟩ dX6_reason_45 (fun H locs hP hD hS => ?_)
        refine lv_iconst (v := nI 4) hx hb dX6_reason_48 (by decide +kernel) ?_
        refine lv_icmp_ge (tgt := 56) hx hb dX6_reason_49 (by decide) (fun c_49 => ?_) (fun c_49 => ?_)
        · have c_49 := nI_le1 (a := 4) (b := wtN g i j) (by omega) (by omega) c_49
          refine lv_iconst (v := nI 0) hx hb dX6_reason_56 (by decide +kernel) ?_
          exact q_iret hx hb hr hlk (by rw [rsN_5 hne (fun r h1 h2 => hp9 r h1 (by omega))]; first | rw [if_pos c_49] | rw [if_neg (by omega)]) hP hS dX6_reason_57
        · have c_49 := nI_le0 (a := 4) (b := wtN g i j) (by omega) (by omega) c_49
          refine lv_iconst (v := nI 5) hx hb dX6_reason_52 (by decide +kernel) ?_
          refine lv_goto (tgt := 57) hx hb dX6_reason_53 (by decide) ?_
          exact q_iret hx hb hr hlk (by rw [rsN_5 hne (fun r h1 h2 => hp9 r h1 (by omega))]; first | rw [if_pos c_49] | rw [if_neg (by omega)]) hP hS dX6_reason_57
      · have c_21 := nI_le0 (a := 5) (b := k) (by omega) (by omega) c_21
        refine lv_aload_n hx hb dX6_reason_24 rfl (lv_at hl 0 rfl) ?_
        refine lv_iload_n hx hb dX6_reason_25 rfl (lv_at hl 1 rfl) ?_
        refine lv_iload_n hx hb dX6_reason_26 rfl (lv_at hl 2 rfl) ?_
        refine lv_iload_n hx hb dX6_reason_27 rfl (lv_at hl 3 rfl) ?_
        refine q_callIW (As := [.int (nI i), .int (nI j), .int (nI k)]) (r := q_b (hrO g (z 0) k i j (z 0))) (w1 := mdW cA ad g z) hx hb hml hown hT hK hP hD hS hA (c_X6_hasReason l D cA ad g z i j k (show i < (z 0) by omega) (show j < (z 0) by omega) (show (z 0) ≤ 16 by omega) hPo (show 2 ≤ k by omega) (show k ≤ 4 by omega)) k_X6_hasReason kl_X6_149 (q0 := 0) rfl rfl rfl ((mdW_adr _ _ _ _).trans (mdW_adr _ _ _ _).symm) hl rfl rfl (Nat.le_of_ble_eq_true rfl) ⟨⟨rfl, rfl⟩, Nat.le_of_ble_eq_true rfl, Nat.le_of_ble_eq_true rfl⟩ ⟨Nat.zero_le _, Nat.zero_le _⟩ dX6_reason_28 (fun H locs hP hD hS => ?_)
        refine lv_if_eq (tgt := 36) hx hb dX6_reason_31 (by decide) (fun c_31 => ?_) (fun c_31 => ?_)
        · have c_31 := q_b0e c_31
          refine lv_iinc (v := nI (k + 1)) (lv' := [(3, .int (nI (k + 1))), (0, .ref (ad 80)), (1, .int (nI i)), (2, .int (nI j))]) hx hb dX6_reason_36 hl (k := 3) rfl (q_inc1 _) (by decide) rfl (fun ls hl => ?_)
          refine lv_goto (tgt := 19) hx hb dX6_reason_39 (by decide) ?_
          exact ih19 (k + 1) (by omega) (by omega) (by omega) hne (fun r h1 h2 => by rcases Nat.lt_or_ge r k with q | q; exact hp9 r h1 q; rw [show r = k by omega]; exact c_31) _ _ _ hP hD hS (lv_sub hl [1, 2, 3, 0] rfl)
        · have c_31 := q_b0n c_31
          refine lv_iload_n hx hb dX6_reason_34 rfl (lv_at hl 3 rfl) ?_
          exact q_iret hx hb hr hlk (by rw [rsN_k hne (by omega) (by omega) hp9 c_31]) hP hS dX6_reason_35
  refine lv_aload_n hx hb dX6_reason_0 rfl (lv_at hl 0 rfl) ?_
  refine q_get hx hb hT hown hK hP kw_X6 0 rfl rfl 22 (by decide) kf_X6_67 rfl (v := .ref (ad 22)) rfl dX6_reason_1 ?_
  refine lv_iload_n hx hb dX6_reason_4 rfl (lv_at hl 1 rfl) ?_
  refine q_iald (f := g 22) hx hb hK hP 20 0 rfl rfl (i) rfl (by omega) (by omega) dX6_reason_5 ?_
  refine lv_aload_n hx hb dX6_reason_6 rfl (lv_at hl 0 rfl) ?_
  refine q_get hx hb hT hown hK hP kw_X6 0 rfl rfl 22 (by decide) kf_X6_67 rfl (v := .ref (ad 22)) rfl dX6_reason_7 ?_
  refine lv_iload_n hx hb dX6_reason_10 rfl (lv_at hl 2 rfl) ?_
  refine q_iald (f := g 22) hx hb hK hP 20 0 rfl rfl (j) rfl (by omega) (by omega) dX6_reason_11 ?_
  refine lv_icmp_ne (tgt := 17) hx hb dX6_reason_12 (by decide) (fun c_12 => ?_) (fun c_12 => ?_)
  · refine lv_iconst (v := nI 2) hx hb dX6_reason_17 (by decide +kernel) ?_
    refine lv_istore_n (lv' := [(3, .int (nI 2)), (0, .ref (ad 80)), (1, .int (nI i)), (2, .int (nI j))]) hx hb dX6_reason_18 rfl hl (by decide) rfl (fun ls hl => ?_)
    exact zqL19 (6) 2 (by omega) (by omega) (by omega) c_12 (fun r h1 h2 => absurd (Nat.lt_of_le_of_lt h1 h2) (Nat.lt_irrefl _)) _ _ _ hP hD hS (lv_sub hl [1, 2, 3, 0] rfl)
  · refine lv_iconst (v := nI 1) hx hb dX6_reason_15 (by decide +kernel) ?_
    exact q_iret hx hb hr hlk (by rw [rsN, if_pos c_12]) hP hS dX6_reason_16
abbrev rm_X6_isInCareer : Room := { frames := 0, cells := 0, slots := 0, locals := 0 }
set_option maxRecDepth 100000 in
set_option maxHeartbeats 4000000 in
theorem c_X6_isInCareer (l : Launch) (D : va_G) (cA : ClassId) (ad : Nat → Nat) (g : Nat → Nat → Int32) (z : Nat → Nat) (i : Nat) (w : Int32) (hi : i < 16) : q_CI l yX6_isInCareer [Cond.code yX6_isInCareer cX6_isInCareer 3 (some .boolean)] rm_X6_isInCareer D cA [.ref (ad 80), .int (nI i), .int w] (mdW cA ad g z) (q_b (icB g w i)) (mdW cA ad g z) := by
  refine q_startI RX6 (by decide +kernel) rfl (Nat.le_of_ble_eq_true rfl) ?_
  intro p e s m below meth c A args H locs ls hx hb hr hml hown hT hlk hP hK hD hA hS hl
  have hl : lv_has ls 3 [(0, .ref (ad 80)), (1, .int (nI i)), (2, .int w)] := hl
  refine lv_aload_n hx hb dX6_isInCareer_0 rfl (lv_at hl 0 rfl) ?_
  refine q_get hx hb hT hown hK hP kw_X6 0 rfl rfl 22 (by decide) kf_X6_67 rfl (v := .ref (ad 22)) rfl dX6_isInCareer_1 ?_
  refine lv_iload_n hx hb dX6_isInCareer_4 rfl (lv_at hl 1 rfl) ?_
  refine q_iald (f := g 22) hx hb hK hP 20 0 rfl rfl (i) rfl (by omega) (by omega) dX6_isInCareer_5 ?_
  refine lv_iload_n hx hb dX6_isInCareer_6 rfl (lv_at hl 2 rfl) ?_
  refine lv_icmp_ne (tgt := 24) hx hb dX6_isInCareer_7 (by decide) (fun c_7 => ?_) (fun c_7 => ?_)
  · refine lv_iconst (v := nI 0) hx hb dX6_isInCareer_24 (by decide +kernel) ?_
    exact q_zret hx hb hr hlk (Or.inl rfl) (by first | exact q_bt (decide_eq_true ⟨c_7, c_17⟩) | exact q_bf (decide_eq_false (fun h => c_7 h.1)) | exact q_bf (decide_eq_false (fun h => h.2 c_17))) hP hS dX6_isInCareer_25
  · refine lv_aload_n hx hb dX6_isInCareer_10 rfl (lv_at hl 0 rfl) ?_
    refine q_get hx hb hT hown hK hP kw_X6 0 rfl rfl 4 (by decide) kf_X6_19 rfl (v := .ref (ad 3)) rfl dX6_isInCareer_11 ?_
    refine lv_iload_n hx hb dX6_isInCareer_14 rfl (lv_at hl 1 rfl) ?_
    refine q_iald (f := g 3) hx hb hK hP 4 0 rfl rfl (i) rfl (by omega) (by omega) dX6_isInCareer_15 ?_
    refine lv_iconst (v := (-1)) hx hb dX6_isInCareer_16 (by decide +kernel) ?_
    refine lv_icmp_eq (tgt := 24) hx hb dX6_isInCareer_17 (by decide) (fun c_17 => ?_) (fun c_17 => ?_)
    · refine lv_iconst (v := nI 0) hx hb dX6_isInCareer_24 (by decide +kernel) ?_
      exact q_zret hx hb hr hlk (Or.inl rfl) (by first | exact q_bt (decide_eq_true ⟨c_7, c_17⟩) | exact q_bf (decide_eq_false (fun h => c_7 h.1)) | exact q_bf (decide_eq_false (fun h => h.2 c_17))) hP hS dX6_isInCareer_25
    · refine lv_iconst (v := nI 1) hx hb dX6_isInCareer_20 (by decide +kernel) ?_
      refine lv_goto (tgt := 25) hx hb dX6_isInCareer_21 (by decide) ?_
      exact q_zret hx hb hr hlk (Or.inr rfl) (by first | exact q_bt (decide_eq_true ⟨c_7, c_17⟩) | exact q_bf (decide_eq_false (fun h => c_7 h.1)) | exact q_bf (decide_eq_false (fun h => h.2 c_17))) hP hS dX6_isInCareer_25
abbrev rm_X6_isEarlier : Room := { frames := 0, cells := 0, slots := 0, locals := 0 }
set_option maxRecDepth 100000 in
set_option maxHeartbeats 4000000 in
theorem c_X6_isEarlier (l : Launch) (D : va_G) (cA : ClassId) (ad : Nat → Nat) (g : Nat → Nat → Int32) (z : Nat → Nat) (i : Nat) (j : Nat) (hi : i < 16) (hj : j < 16) : q_CI l yX6_isEarlier [Cond.code yX6_isEarlier cX6_isEarlier 3 (some .boolean)] rm_X6_isEarlier D cA [.ref (ad 80), .int (nI i), .int (nI j)] (mdW cA ad g z) (q_b (ieB g i j)) (mdW cA ad g z) := by
  refine q_startI RX6 (by decide +kernel) rfl (Nat.le_of_ble_eq_true rfl) ?_
  intro p e s m below meth c A args H locs ls hx hb hr hml hown hT hlk hP hK hD hA hS hl
  have hl : lv_has ls 3 [(0, .ref (ad 80)), (1, .int (nI i)), (2, .int (nI j))] := hl
  refine lv_aload_n hx hb dX6_isEarlier_0 rfl (lv_at hl 0 rfl) ?_
  refine q_get hx hb hT hown hK hP kw_X6 0 rfl rfl 13 (by decide) kf_X6_46 rfl (v := .ref (ad 17)) rfl dX6_isEarlier_1 ?_
  refine lv_iload_n hx hb dX6_isEarlier_4 rfl (lv_at hl 1 rfl) ?_
  refine q_iald (f := g 17) hx hb hK hP 13 0 rfl rfl (i) rfl (by omega) (by omega) dX6_isEarlier_5 ?_
  refine lv_aload_n hx hb dX6_isEarlier_6 rfl (lv_at hl 0 rfl) ?_
  refine q_get hx hb hT hown hK hP kw_X6 0 rfl rfl 13 (by decide) kf_X6_46 rfl (v := .ref (ad 17)) rfl dX6_isEarlier_7 ?_
  refine lv_iload_n hx hb dX6_isEarlier_10 rfl (lv_at hl 2 rfl) ?_
  refine q_iald (f := g 17) hx hb hK hP 13 0 rfl rfl (j) rfl (by omega) (by omega) dX6_isEarlier_11 ?_
  refine lv_icmp_lt (tgt := 35) hx hb dX6_isEarlier_12 (by decide) (fun c_12 => ?_) (fun c_12 => ?_)
  · refine lv_iconst (v := nI 1) hx hb dX6_isEarlier_35 (by decide +kernel) ?_
    refine lv_goto (tgt := 40) hx hb dX6_isEarlier_36 (by decide) ?_
    exact q_zret hx hb hr hlk (Or.inr rfl) (by first | exact q_bt (decide_eq_true (Or.inl c_12)) | exact q_bt (decide_eq_true (Or.inr ⟨c_27, by omega⟩)) | exact q_bf (decide_eq_false (fun h => h.elim c_12 (fun h2 => c_27 h2.1))) | exact q_bf (decide_eq_false (fun h => h.elim c_12 (fun h2 => by omega)))) hP hS dX6_isEarlier_40
  · refine lv_aload_n hx hb dX6_isEarlier_15 rfl (lv_at hl 0 rfl) ?_
    refine q_get hx hb hT hown hK hP kw_X6 0 rfl rfl 13 (by decide) kf_X6_46 rfl (v := .ref (ad 17)) rfl dX6_isEarlier_16 ?_
    refine lv_iload_n hx hb dX6_isEarlier_19 rfl (lv_at hl 1 rfl) ?_
    refine q_iald (f := g 17) hx hb hK hP 13 0 rfl rfl (i) rfl (by omega) (by omega) dX6_isEarlier_20 ?_
    refine lv_aload_n hx hb dX6_isEarlier_21 rfl (lv_at hl 0 rfl) ?_
    refine q_get hx hb hT hown hK hP kw_X6 0 rfl rfl 13 (by decide) kf_X6_46 rfl (v := .ref (ad 17)) rfl dX6_isEarlier_22 ?_
    refine lv_iload_n hx hb dX6_isEarlier_25 rfl (lv_at hl 2 rfl) ?_
    refine q_iald (f := g 17) hx hb hK hP 13 0 rfl rfl (j) rfl (by omega) (by omega) dX6_isEarlier_26 ?_
    refine lv_icmp_ne (tgt := 39) hx hb dX6_isEarlier_27 (by decide) (fun c_27 => ?_) (fun c_27 => ?_)
    · refine lv_iconst (v := nI 0) hx hb dX6_isEarlier_39 (by decide +kernel) ?_
      exact q_zret hx hb hr hlk (Or.inl rfl) (by first | exact q_bt (decide_eq_true (Or.inl c_12)) | exact q_bt (decide_eq_true (Or.inr ⟨c_27, by omega⟩)) | exact q_bf (decide_eq_false (fun h => h.elim c_12 (fun h2 => c_27 h2.1))) | exact q_bf (decide_eq_false (fun h => h.elim c_12 (fun h2 => by omega)))) hP hS dX6_isEarlier_40
    · refine lv_iload_n hx hb dX6_isEarlier_30 rfl (lv_at hl 1 rfl) ?_
      refine lv_iload_n hx hb dX6_isEarlier_31 rfl (lv_at hl 2 rfl) ?_
      refine lv_icmp_ge (tgt := 39) hx hb dX6_isEarlier_32 (by decide) (fun c_32 => ?_) (fun c_32 => ?_)
      · have c_32 := nI_le1 (a := j) (b := i) (by omega) (by omega) c_32
        refine lv_iconst (v := nI 0) hx hb dX6_isEarlier_39 (by decide +kernel) ?_
        exact q_zret hx hb hr hlk (Or.inl rfl) (by first | exact q_bt (decide_eq_true (Or.inl c_12)) | exact q_bt (decide_eq_true (Or.inr ⟨c_27, by omega⟩)) | exact q_bf (decide_eq_false (fun h => h.elim c_12 (fun h2 => c_27 h2.1))) | exact q_bf (decide_eq_false (fun h => h.elim c_12 (fun h2 => by omega)))) hP hS dX6_isEarlier_40
      · have c_32 := nI_le0 (a := j) (b := i) (by omega) (by omega) c_32
        refine lv_iconst (v := nI 1) hx hb dX6_isEarlier_35 (by decide +kernel) ?_
        refine lv_goto (tgt := 40) hx hb dX6_isEarlier_36 (by decide) ?_
        exact q_zret hx hb hr hlk (Or.inr rfl) (by first | exact q_bt (decide_eq_true (Or.inl c_12)) | exact q_bt (decide_eq_true (Or.inr ⟨c_27, by omega⟩)) | exact q_bf (decide_eq_false (fun h => h.elim c_12 (fun h2 => c_27 h2.1))) | exact q_bf (decide_eq_false (fun h => h.elim c_12 (fun h2 => by omega)))) hP hS dX6_isEarlier_40
abbrev rm_X6_inCareer : Room := { frames := 1, cells := 0, slots := 0, locals := 22 }
set_option maxRecDepth 100000 in
set_option maxHeartbeats 4000000 in
theorem c_X6_inCareer (l : Launch) (D : va_G) (cA : ClassId) (ad : Nat → Nat) (g : Nat → Nat → Int32) (z : Nat → Nat) (w : Int32) (p9 : Nat) (hc : (z 0) ≤ 16) (hp9 : p9 < 2147483648) : q_CI l yX6_inCareer [Cond.code yX6_inCareer cX6_inCareer 7 (some .int)] rm_X6_inCareer D cA [.ref (ad 80), .int w, .int (nI p9)] (mdW cA ad g z) (icF g w (z 0) p9 (z 0)) (mdW cA ad g z) := by
  refine q_startI RX6 (by decide +kernel) rfl (Nat.le_of_ble_eq_true rfl) ?_
  intro p e s m below meth c A args H locs ls hx hb hr hml hown hT hlk hP hK hD hA hS hl
  have hl : lv_has ls 7 [(0, .ref (ad 80)), (1, .int w), (2, .int (nI p9))] := hl
  have zqL5 : ∀ (fu : Nat), ∀ (k : Nat), (z 0 + 1 ≤ k + fu) → (k ≤ (z 0)) → ∀ (H : Heap) (locs : List Loc) (ls : Array Slot), va_P D vwCl (mdW cA ad g z) H → va_D A (mdW cA ad g z) → va_S A s.heap H locs → lv_has ls 7 [(0, .ref (ad 80)), (1, .int w), (2, .int (nI p9)), (3, .int (icF g w (z 0) p9 k)), (4, .int (nI k))] → W p l e rm_X6_inCareer s m args below meth c H locs 0 0 (q_GI D (icF g w (z 0) p9 (z 0)) (mdW cA ad g z) A below args s) (F0 m 5 ls []) := by
    intro fu
    induction fu with
    | zero =>
      intro k hfu hk H locs ls hP hD hS hl
      exfalso; omega
    | succ fu ih5 =>
      intro k hfu hk H locs ls hP hD hS hl
      have zqL20 : ∀ (fu : Nat), ∀ (m9 : Nat), (z 0 + 1 ≤ m9 + fu) → (m9 ≤ (z 0)) → (k < (z 0)) → ∀ (H : Heap) (locs : List Loc) (ls : Array Slot), va_P D vwCl (mdW cA ad g z) H → va_D A (mdW cA ad g z) → va_S A s.heap H locs → lv_has ls 7 [(0, .ref (ad 80)), (1, .int w), (2, .int (nI p9)), (3, .int (icF g w (z 0) p9 k)), (4, .int (nI k)), (5, .int (nI (icE g w k m9))), (6, .int (nI m9))] → W p l e rm_X6_inCareer s m args below meth c H locs 0 0 (q_GI D (icF g w (z 0) p9 (z 0)) (mdW cA ad g z) A below args s) (F0 m 20 ls []) := by
        intro fu
        induction fu with
        | zero =>
          intro m9 hfu hm8 hk9 H locs ls hP hD hS hl
          exfalso; omega
        | succ fu ih20 =>
          intro m9 hfu hm8 hk9 H locs ls hP hD hS hl
          have zqJ88 : (m9 = (z 0)) → ∀ (H : Heap) (locs : List Loc) (ls : Array Slot), va_P D vwCl (mdW cA ad g z) H → va_D A (mdW cA ad g z) → va_S A s.heap H locs → lv_has ls 7 [(0, .ref (ad 80)), (1, .int w), (2, .int (nI p9)), (4, .int (nI k))] → W p l e rm_X6_inCareer s m args below meth c H locs 0 0 (q_GI D (icF g w (z 0) p9 (z 0)) (mdW cA ad g z) A below args s) (F0 m 88 ls [.int (icF g w (z 0) p9 (k + 1))]) := by
            intro  hm7 H locs ls hP hD hS hl
            refine lv_istore_n (lv' := [(3, .int (icF g w (z 0) p9 (k + 1))), (0, .ref (ad 80)), (1, .int w), (2, .int (nI p9)), (4, .int (nI k))]) hx hb dX6_inCareer_88 rfl hl (by decide) rfl (fun ls hl => ?_)
            refine lv_iinc (v := nI (k + 1)) (lv' := [(4, .int (nI (k + 1))), (3, .int (icF g w (z 0) p9 (k + 1))), (0, .ref (ad 80)), (1, .int w), (2, .int (nI p9))]) hx hb dX6_inCareer_89 hl (k := 4) rfl (q_inc1 _) (by decide) rfl (fun ls hl => ?_)
            refine lv_goto (tgt := 5) hx hb dX6_inCareer_92 (by decide) ?_
            exact ih5 (k + 1) (by omega) (by omega) _ _ _ hP hD hS (lv_sub hl [2, 3, 4, 1, 0] rfl)
          have zqJ57 : (m9 < (z 0)) → ∀ (H : Heap) (locs : List Loc) (ls : Array Slot), va_P D vwCl (mdW cA ad g z) H → va_D A (mdW cA ad g z) → va_S A s.heap H locs → lv_has ls 7 [(0, .ref (ad 80)), (1, .int w), (2, .int (nI p9)), (3, .int (icF g w (z 0) p9 k)), (4, .int (nI k)), (6, .int (nI m9))] → W p l e rm_X6_inCareer s m args below meth c H locs 0 0 (q_GI D (icF g w (z 0) p9 (z 0)) (mdW cA ad g z) A below args s) (F0 m 57 ls [.int (q_b (icB g w m9 && ieB g m9 k)), .int (nI (icE g w k m9))]) := by
            intro  hm7 H locs ls hP hD hS hl
            refine lv_iadd hx hb dX6_inCareer_57 ?_
            refine q_top (y := nI (icE g w k (m9 + 1))) (icE_addb) ?_
            refine lv_istore (lv' := [(5, .int (nI (icE g w k (m9 + 1)))), (0, .ref (ad 80)), (1, .int w), (2, .int (nI p9)), (3, .int (icF g w (z 0) p9 k)), (4, .int (nI k)), (6, .int (nI m9))]) hx hb dX6_inCareer_58 hl (by decide) rfl (fun ls hl => ?_)
            refine lv_iinc (v := nI (m9 + 1)) (lv' := [(6, .int (nI (m9 + 1))), (5, .int (nI (icE g w k (m9 + 1)))), (0, .ref (ad 80)), (1, .int w), (2, .int (nI p9)), (3, .int (icF g w (z 0) p9 k)), (4, .int (nI k))]) hx hb dX6_inCareer_60 hl (k := 6) rfl (q_inc1 _) (by decide) rfl (fun ls hl => ?_)
            refine lv_goto (tgt := 20) hx hb dX6_inCareer_63 (by decide) ?_
            exact ih20 (m9 + 1) (by omega) (by omega) (by omega) _ _ _ hP hD hS (lv_sub hl [2, 3, 4, 5, 6, 1, 0] rfl)
          refine lv_iload hx hb dX6_inCareer_20 (lv_at hl 6 rfl) ?_
          refine lv_aload_n hx hb dX6_inCareer_22 rfl (lv_at hl 0 rfl) ?_
          refine q_get hx hb hT hown hK hP kw_X6 0 rfl rfl 0 (by decide) kf_X6_86 rfl (v := .int (nI (z 0))) rfl dX6_inCareer_23 ?_
          refine lv_icmp_ge (tgt := 66) hx hb dX6_inCareer_26 (by decide) (fun c_26 => ?_) (fun c_26 => ?_)
          · have c_26 := nI_le1 (a := z 0) (b := m9) (by omega) (by omega) c_26
            have hie := icE_le g w k m9
            have hm6 : m9 = z 0 := by omega
            refine lv_aload_n hx hb dX6_inCareer_66 rfl (lv_at hl 0 rfl) ?_
            refine lv_iload hx hb dX6_inCareer_67 (lv_at hl 4 rfl) ?_
            refine lv_iload_n hx hb dX6_inCareer_69 rfl (lv_at hl 1 rfl) ?_
            refine q_callIW (As := [.int (nI k), .int w]) (r := q_b (icB g w k)) (w1 := mdW cA ad g z) hx hb hml hown hT hK hP hD hS hA (c_X6_isInCareer l D cA ad g z k w (show k < 16 by omega)) k_X6_isInCareer kl_X6_161 (q0 := 0) rfl rfl rfl ((mdW_adr _ _ _ _).trans (mdW_adr _ _ _ _).symm) hl rfl rfl (Nat.le_of_ble_eq_true rfl) ⟨⟨rfl, rfl⟩, Nat.le_of_ble_eq_true rfl, Nat.le_of_ble_eq_true rfl⟩ ⟨Nat.zero_le _, Nat.zero_le _⟩ dX6_inCareer_70 (fun H locs hP hD hS => ?_)
            refine lv_if_eq (tgt := 87) hx hb dX6_inCareer_73 (by decide) (fun c_73 => ?_) (fun c_73 => ?_)
            · have c_73 := q_b0e c_73
              refine lv_iload_n hx hb dX6_inCareer_87 rfl (lv_at hl 3 rfl) ?_
              refine q_top (y := icF g w (z 0) p9 (k + 1)) (by first | exact icF_t c_73 (by rw [← c_79, hm7]) | exact icF_f (fun h => Bool.false_ne_true (c_73.symm.trans h.1)) | exact icF_f (fun h => c_79 (by rw [← h.2, hm7]))) ?_
              exact zqJ88  (by omega) _ _ _ hP hD hS (lv_sub hl [0, 1, 2, 4] rfl)
            · have c_73 := q_b0n c_73
              refine lv_iload hx hb dX6_inCareer_76 (lv_at hl 5 rfl) ?_
              refine lv_iload_n hx hb dX6_inCareer_78 rfl (lv_at hl 2 rfl) ?_
              refine lv_icmp_ne (tgt := 87) hx hb dX6_inCareer_79 (by decide) (fun c_79 => ?_) (fun c_79 => ?_)
              · have c_79 := nI_eq0 (a := icE g w k m9) (b := p9) (by omega) (by omega) c_79
                refine lv_iload_n hx hb dX6_inCareer_87 rfl (lv_at hl 3 rfl) ?_
                refine q_top (y := icF g w (z 0) p9 (k + 1)) (by first | exact icF_t c_73 (by rw [← c_79, hm7]) | exact icF_f (fun h => Bool.false_ne_true (c_73.symm.trans h.1)) | exact icF_f (fun h => c_79 (by rw [← h.2, hm7]))) ?_
                exact zqJ88  (by omega) _ _ _ hP hD hS (lv_sub hl [0, 1, 2, 4] rfl)
              · have c_79 := nI_eq1 (a := icE g w k m9) (b := p9) (by omega) (by omega) c_79
                refine lv_iload hx hb dX6_inCareer_82 (lv_at hl 4 rfl) ?_
                refine lv_goto (tgt := 88) hx hb dX6_inCareer_84 (by decide) ?_
                refine q_top (y := icF g w (z 0) p9 (k + 1)) (by first | exact icF_t c_73 (by rw [← c_79, hm7]) | exact icF_f (fun h => Bool.false_ne_true (c_73.symm.trans h.1)) | exact icF_f (fun h => c_79 (by rw [← h.2, hm7]))) ?_
                exact zqJ88  (by omega) _ _ _ hP hD hS (lv_sub hl [0, 1, 2, 4] rfl)
          · have c_26 := nI_le0 (a := z 0) (b := m9) (by omega) (by omega) c_26
            refine lv_iload hx hb dX6_inCareer_29 (lv_at hl 5 rfl) ?_
            refine lv_aload_n hx hb dX6_inCareer_31 rfl (lv_at hl 0 rfl) ?_
            refine lv_iload hx hb dX6_inCareer_32 (lv_at hl 6 rfl) ?_
            refine lv_iload_n hx hb dX6_inCareer_34 rfl (lv_at hl 1 rfl) ?_
            refine q_callIW (As := [.int (nI m9), .int w]) (r := q_b (icB g w m9)) (w1 := mdW cA ad g z) hx hb hml hown hT hK hP hD hS hA (c_X6_isInCareer l D cA ad g z m9 w (show m9 < 16 by omega)) k_X6_isInCareer kl_X6_161 (q0 := 0) rfl rfl rfl ((mdW_adr _ _ _ _).trans (mdW_adr _ _ _ _).symm) hl rfl rfl (Nat.le_of_ble_eq_true rfl) ⟨⟨rfl, rfl⟩, Nat.le_of_ble_eq_true rfl, Nat.le_of_ble_eq_true rfl⟩ ⟨Nat.zero_le _, Nat.zero_le _⟩ dX6_inCareer_35 (fun H locs hP hD hS => ?_)
            refine lv_if_eq (tgt := 56) hx hb dX6_inCareer_38 (by decide) (fun c_38 => ?_) (fun c_38 => ?_)
            · have c_38 := q_b0e c_38
              refine lv_iconst (v := nI 0) hx hb dX6_inCareer_56 (by decide +kernel) ?_
              refine q_top (y := q_b (icB g w m9 && ieB g m9 k)) (by first | exact q_bt (by rw [c_38, c_49]; rfl) | exact q_bf (by rw [c_38]; rfl) | exact q_bf (by rw [c_38, c_49]; rfl)) ?_
              exact zqJ57  (by omega) _ _ _ hP hD hS (lv_sub hl [0, 1, 2, 3, 4, 6] rfl)
            · have c_38 := q_b0n c_38
              refine lv_aload_n hx hb dX6_inCareer_41 rfl (lv_at hl 0 rfl) ?_
              refine lv_iload hx hb dX6_inCareer_42 (lv_at hl 6 rfl) ?_
              refine lv_iload hx hb dX6_inCareer_44 (lv_at hl 4 rfl) ?_
              refine q_callIW (As := [.int (nI m9), .int (nI k)]) (r := q_b (ieB g m9 k)) (w1 := mdW cA ad g z) hx hb hml hown hT hK hP hD hS hA (c_X6_isEarlier l D cA ad g z m9 k (show m9 < 16 by omega) (show k < 16 by omega)) k_X6_isEarlier kl_X6_164 (q0 := 0) rfl rfl rfl ((mdW_adr _ _ _ _).trans (mdW_adr _ _ _ _).symm) hl rfl rfl (Nat.le_of_ble_eq_true rfl) ⟨⟨rfl, rfl⟩, Nat.le_of_ble_eq_true rfl, Nat.le_of_ble_eq_true rfl⟩ ⟨Nat.zero_le _, Nat.zero_le _⟩ dX6_inCareer_46 (fun H locs hP hD hS => ?_)
              refine lv_if_eq (tgt := 56) hx hb dX6_inCareer_49 (by decide) (fun c_49 => ?_) (fun c_49 => ?_)
              · have c_49 := q_b0e c_49
                refine lv_iconst (v := nI 0) hx hb dX6_inCareer_56 (by decide +kernel) ?_
                refine q_top (y := q_b (icB g w m9 && ieB g m9 k)) (by first | exact q_bt (by rw [c_38, c_49]; rfl) | exact q_bf (by rw [c_38]; rfl) | exact q_bf (by rw [c_38, c_49]; rfl)) ?_
                exact zqJ57  (by omega) _ _ _ hP hD hS (lv_sub hl [0, 1, 2, 3, 4, 6] rfl)
              · have c_49 := q_b0n c_49
                refine lv_iconst (v := nI 1) hx hb dX6_inCareer_52 (by decide +kernel) ?_
                refine lv_goto (tgt := 57) hx hb dX6_inCareer_53 (by decide) ?_
                refine q_top (y := q_b (icB g w m9 && ieB g m9 k)) (by first | exact q_bt (by rw [c_38, c_49]; rfl) | exact q_bf (by rw [c_38]; rfl) | exact q_bf (by rw [c_38, c_49]; rfl)) ?_
                exact zqJ57  (by omega) _ _ _ hP hD hS (lv_sub hl [0, 1, 2, 3, 4, 6] rfl)
      refine lv_iload hx hb dX6_inCareer_5 (lv_at hl 4 rfl) ?_
      refine lv_aload_n hx hb dX6_inCareer_7 rfl (lv_at hl 0 rfl) ?_
      refine q_get hx hb hT hown hK hP kw_X6 0 rfl rfl 0 (by decide) kf_X6_86 rfl (v := .int (nI (z 0))) rfl dX6_inCareer_8 ?_
      refine lv_icmp_ge (tgt := 95) hx hb dX6_inCareer_11 (by decide) (fun c_11 => ?_) (fun c_11 => ?_)
      · have c_11 := nI_le1 (a := z 0) (b := k) (by omega) (by omega) c_11
        refine lv_iload_n hx hb dX6_inCareer_95 rfl (lv_at hl 3 rfl) ?_
        exact q_iret hx hb hr hlk (by rw [show k = z 0 by omega]) hP hS dX6_inCareer_96
      · have c_11 := nI_le0 (a := z 0) (b := k) (by omega) (by omega) c_11
        refine lv_iconst (v := nI 0) hx hb dX6_inCareer_14 (by decide +kernel) ?_
        refine lv_istore (lv' := [(5, .int (nI 0)), (0, .ref (ad 80)), (1, .int w), (2, .int (nI p9)), (3, .int (icF g w (z 0) p9 k)), (4, .int (nI k))]) hx hb dX6_inCareer_15 hl (by decide) rfl (fun ls hl => ?_)
        refine lv_iconst (v := nI 0) hx hb dX6_inCareer_17 (by decide +kernel) ?_
        refine lv_istore (lv' := [(6, .int (nI 0)), (5, .int (nI 0)), (0, .ref (ad 80)), (1, .int w), (2, .int (nI p9)), (3, .int (icF g w (z 0) p9 k)), (4, .int (nI k))]) hx hb dX6_inCareer_18 hl (by decide) rfl (fun ls hl => ?_)
        have e9_0 : (nI 0) = (nI (icE g w k 0)) := by first | with_reducible rfl | (rfl)
        have hl9 : lv_has ls 7 [(0, .ref (ad 80)), (1, .int w), (2, .int (nI p9)), (3, .int (icF g w (z 0) p9 k)), (4, .int (nI k)), (5, .int (nI (icE g w k 0))), (6, .int (nI 0))] := lv_cast (l := [(0, .ref (ad 80)), (1, .int w), (2, .int (nI p9)), (3, .int (icF g w (z 0) p9 k)), (4, .int (nI k)), (5, .int (nI 0)), (6, .int (nI 0))]) (lv_sub hl [2, 3, 4, 5, 6, 1, 0] rfl) (congrArg (fun v9 : Int32 => ([(0, .ref (ad 80)), (1, .int w), (2, .int (nI p9)), (3, .int (icF g w (z 0) p9 k)), (4, .int (nI k)), (5, .int v9), (6, .int (nI 0))] : List (Nat × Value))) e9_0)
        exact zqL20 (z 0 + 1) 0 (by omega) (by omega) (by omega) _ _ _ hP hD hS hl9
  refine lv_iconst (v := (-1)) hx hb dX6_inCareer_0 (by decide +kernel) ?_
  refine lv_istore_n (lv' := [(3, .int (-1)), (0, .ref (ad 80)), (1, .int w), (2, .int (nI p9))]) hx hb dX6_inCareer_1 rfl hl (by decide) rfl (fun ls hl => ?_)
  refine lv_iconst (v := nI 0) hx hb dX6_inCareer_2 (by decide +kernel) ?_
  refine lv_istore (lv' := [(4, .int (nI 0)), (3, .int (-1)), (0, .ref (ad 80)), (1, .int w), (2, .int (nI p9))]) hx hb dX6_inCareer_3 hl (by decide) rfl (fun ls hl => ?_)
  have e9_0 : (-1) = (icF g w (z 0) p9 0) := by first | with_reducible rfl | (rfl)
  have hl9 : lv_has ls 7 [(0, .ref (ad 80)), (1, .int w), (2, .int (nI p9)), (3, .int (icF g w (z 0) p9 0)), (4, .int (nI 0))] := lv_cast (l := [(0, .ref (ad 80)), (1, .int w), (2, .int (nI p9)), (3, .int (-1)), (4, .int (nI 0))]) (lv_sub hl [2, 3, 4, 1, 0] rfl) (congrArg (fun v9 : Int32 => ([(0, .ref (ad 80)), (1, .int w), (2, .int (nI p9)), (3, .int v9), (4, .int (nI 0))] : List (Nat × Value))) e9_0)
  exact zqL5 (z 0 + 1) 0 (by omega) (by omega) _ _ _ hP hD hS hl9
