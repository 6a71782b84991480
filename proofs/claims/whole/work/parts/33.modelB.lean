def dtD (u0 : Nat) (a b w lo hi F0 L0 : Nat → Int32) (t n : Nat) : dtT := dtR a b w lo hi t n u0 (copyTo F0 lo n, copyTo L0 hi n, true, true)
def dtH (u0 : Nat) (a b w lo hi F0 L0 : Nat → Int32) (t n : Nat) : Prop := dtE a b w lo hi t n u0 (copyTo F0 lo n, copyTo L0 hi n, true, true)
theorem q_nIne {n : Nat} (h : n ≤ 16) : ¬ nI n = (-1) := by
  have e : ∀ n, n ≤ 16 → ¬ nI n = (-1) := by decide +kernel
  exact e n h
theorem mx_t {x y : Int32} (h : y ≤ x) : x = mx x y := by rw [mx, if_neg (q_nlt3 h)]
theorem mx_f {x y : Int32} (h : ¬ y ≤ x) : y = mx x y := by rw [mx, if_pos (q_lt3 h)]
theorem mn_t {x y : Int32} (h : x ≤ y) : x = mn x y := by rw [mn, if_neg (q_nlt3 h)]
theorem mn_f {x y : Int32} (h : ¬ x ≤ y) : y = mn x y := by rw [mn, if_pos (q_lt3 h)]
abbrev rm_X6_reason : Room := { frames := 3, cells := 0, slots := 0, locals := 70 }
set_option maxRecDepth 100000 in
set_option maxHeartbeats 4000000 in
theorem c_X6_reason (l : Launch) (D : va_G) (cA : ClassId) (ad : Nat → Nat) (g : Nat → Nat → Int32) (z : Nat → Nat) (i : Nat) (j : Nat) (hi : i < (z 0)) (hj : j < (z 0)) (hc : (z 0) ≤ 16) (hPo : ∀ k, k < (z 0) → (g 3) k = (-1) ∨ q_r ((g 3) k) 8) : q_CI l yX6_reason [Cond.code yX6_reason cX6_reason 4 (some .int)] rm_X6_reason D cA [.ref (ad 80), .int (nI i), .int (nI j)] (mdW cA ad g z) (nI (rsN g (z 0) i j)) (mdW cA ad g z) := by
  refine q_startI RX6 (by decide +kernel) rfl (Nat.le_of_ble_eq_true rfl) ?_
  intro p e s m below meth c A args H locs ls hx hb hr hml hown hT hlk hP hK hD hA hS hl
  have hl : lv_has ls 4 [(0, .ref (ad 80)), (1, .int (nI i)), (2, .int (nI j))] := hl
  have hw9 : wtN g i j ≤ 13 := wtN_le g i j
  have zqL19 : ∀ (fu : Nat), ∀ (k : Nat), (6 ≤ k + fu) → (2 ≤ k) → (k ≤ 5) → (¬ (g 22) i = (g 22) j) → (∀ r, 2 ≤ r → r < k → hrO g (z 0) r i j (z 0) = false) → ∀ (H : Heap) (locs : List Loc) (ls : Array Slot), va_P D vwCl (mdW cA ad g z) H → va_D A (mdW cA ad g z) → va_S A s.heap H locs → lv_has ls 4 [(0, .ref (ad 80)), (1, .int (nI i)), (2, .int (nI j)), (3, .int (nI k))] → W p l e rm_X6_reason s m args below meth c H locs 0 0 (q_GI D (nI (rsN g (z 0) i j)) (mdW cA ad g z) A below args s) (F0 m 19 ls []) := by
    intro fu
    induction fu with
    | zero =>
      intro k hfu hk2 hk5 hne hp9 H locs ls hP hD hS hl
      exfalso; omega
    | succ fu ih19 =>
      intro k hfu hk2 hk5 hne hp9 H locs ls hP hD hS hl
      refine lv_iload_n hx hb dX6_reason_19 rfl (lv_at hl 3 rfl) ?_
      refine lv_iconst (v := nI 5) hx hb dX6_reason_20 (by decide +kernel) ?_
      refine lv_icmp_ge (tgt := 42) hx hb dX6_reason_21 (by decide) (fun c_21 => ?_) (fun c_21 => ?_)
      · have c_21 := nI_le1 (a := 5) (b := k) (by omega) (by omega) c_21
        refine lv_aload_n hx hb dX6_reason_42 rfl (lv_at hl 0 rfl) ?_
        refine lv_iload_n hx hb dX6_reason_43 rfl (lv_at hl 1 rfl) ?_
        refine lv_iload_n hx hb dX6_reason_44 rfl (lv_at hl 2 rfl) ?_
        refine q_callIW (As := [.int (nI i), .int (nI j)]) (r := nI (wtN g i j)) (w1 := mdW cA ad g z) hx hb hml hown hT hK hP hD hS hA (c_X6_weightOf l D cA ad g z i j (show i < 16 by omega) (show j < 16 by omega)) k_X6_weightOf kl_X6_139 (q0 := 0) rfl rfl rfl ((mdW_adr _ _ _ _).trans (mdW_adr _ _ _ _).symm) hl rfl rfl (Nat.le_of_ble_eq_true rfl) ⟨⟨rfl, rfl⟩, Nat.le_of_ble_eq_true rfl, Nat.le_of_ble_eq_true rfl⟩ ⟨Nat.zero_le _, Nat.zero_le _⟩ dX6_reason_45 (fun H locs hP hD hS => ?_)
        refine lv_iconst (v := nI 4) hx hb dX6_reason_48 (by decide +kernel) ?_
        refine lv_icmp_ge (tgt := 56) hx hb dX6_reason_49 (by decide) (fun c_49 => ?_) (fun c_49 => ?_)
        · have c_49 := nI_le1 (a := 4) (b := wtN g i j) (by omega) (by omega) c_49
          refine lv_iconst (v := nI 0) hx hb dX6_reason_56 (by decide +kernel) ?_
          exact q_iret hx hb hr hlk (by rw [rsN_5 hne (fun r h1 h2 => hp9 r h1 (by omega))]; first | rw [if_pos c_49] | rw [if_neg (by omega)]) hP hS dX6_reason_57
        · have c_49 := nI_le0 (a := 4) (b := wtN g i j) (by omega) (by omega) c_49
          refine lv_iconst (v := nI 5) hx hb dX6_reason_52 (by decide +kernel) ?_
          refine lv_goto (tgt := 57) hx hb dX6_reason_53 (by decide) ?_
          exact q_iret hx hb hr hlk (by rw [rsN_5 hne (fun r h1 h2 => hp9 r h1 (by omega))]; first | rw [if_pos c_49] | rw [if_neg (by omega)]) hP hS dX6_reason_57
      · have c_21 := nI_le0 (a := 5) (b := k) (by omega) (by omega) c_21
        refine lv_aload_n hx hb dX6_reason_24 rfl (lv_at hl 0 rfl) ?_
        refine lv_iload_n hx hb dX6_reason_25 rfl (lv_at hl 1 rfl) ?_
        refine lv_iload_n hx hb dX6_reason_26 rfl (lv_at hl 2 rfl) ?_
        refine lv_iload_n hx hb dX6_reason_27 rfl (lv_at hl 3 rfl) ?_
        refine q_callIW (As := [.int (nI i), .int (nI j), .int (nI k)]) (r := q_b (hrO g (z 0) k i j (z 0))) (w1 := mdW cA ad g z) hx hb hml hown hT hK hP hD hS hA (c_X6_hasReason l D cA ad g z i j k (show i < (z 0) by omega) (show j < (z 0) by omega) (show (z 0) ≤ 16 by omega) hPo (show 2 ≤ k by omega) (show k ≤ 4 by omega)) k_X6_hasReason kl_X6_149 (q0 := 0) rfl rfl rfl ((mdW_adr _ _ _ _).trans (mdW_adr _ _ _ _).symm) hl rfl rfl (Nat.le_of_ble_eq_true rfl) ⟨⟨rfl, rfl⟩, Nat.le_of_ble_eq_true rfl, Nat.le_of_ble_eq_true rfl⟩ ⟨Nat.zero_le _, Nat.zero_le _⟩ dX6_reason_28 (fun H locs hP hD hS => ?_)
        refine lv_if_eq (tgt := 36) hx hb dX6_reason_31 (by decide) (fun c_31 => ?_) (fun c_31 => ?_)
        · have c_31 := q_b0e c_31
          refine lv_iinc (v := nI (k + 1)) (lv' := [(3, .int (nI (k + 1))), (0, .ref (ad 80)), (1, .int (nI i)), (2, .int (nI j))]) hx hb dX6_reason_36 hl (k := 3) rfl (q_inc1 _) (by decide) rfl (fun ls hl => ?_)
          refine lv_goto (tgt := 19) hx hb dX6_reason_39 (by decide) ?_
          exact ih19 (k + 1) (by omega) (by omega) (by omega) hne (fun r h1 h2 => by rcases Nat.lt_or_ge r k with q | q; exact hp9 r h1 q; rw [show r = k by omega]; exact c_31) _ _ _ hP hD hS (lv_sub hl [1, 2, 3, 0] rfl)
        · have c_31 := q_b0n c_31
          refine lv_iload_n hx hb dX6_reason_34 rfl (lv_at hl 3 rfl) ?_
          exact q_iret hx hb hr hlk (by rw [rsN_k hne (by omega) (by omega) hp9 c_31]) hP hS dX6_reason_35
  refine lv_aload_n hx hb dX6_reason_0 rfl (lv_at hl 0 rfl) ?_
  refine q_get hx hb hT hown hK hP kw_X6 0 rfl rfl 22 (by decide) kf_X6_67 rfl (v := .ref (ad 22)) rfl dX6_reason_1 ?_
  refine lv_iload_n hx hb dX6_reason_4 rfl (lv_at hl 1 rfl) ?_
  refine q_iald (f := g 22) hx hb hK hP 20 0 rfl rfl (i) rfl (by omega) (by omega) dX6_reason_5 ?_
  refine lv_aload_n hx hb dX6_reason_6 rfl (lv_at hl 0 rfl) ?_
  refine q_get hx hb hT hown hK hP kw_X6 0 rfl rfl 22 (by decide) kf_X6_67 rfl (v := .ref (ad 22)) rfl dX6_reason_7 ?_
  refine lv_iload_n hx hb dX6_reason_10 rfl (lv_at hl 2 rfl) ?_
  refine q_iald (f := g 22) hx hb hK hP 20 0 rfl rfl (j) rfl (by omega) (by omega) dX6_reason_11 ?_
  refine lv_icmp_ne (tgt := 17) hx hb dX6_reason_12 (by decide) (fun c_12 => ?_) (fun c_12 => ?_)
  · refine lv_iconst (v := nI 2) hx hb dX6_reason_17 (by decide +kernel) ?_
    refine lv_istore_n (lv' := [(3, .int (nI 2)), (0, .ref (ad 80)), (1, .int (nI i)), (2, .int (nI j))]) hx hb dX6_reason_18 rfl hl (by decide) rfl (fun ls hl => ?_)
    exact zqL19 (6) 2 (by omega) (by omega) (by omega) c_12 (fun r h1 h2 => absurd (Nat.lt_of_le_of_lt h1 h2) (Nat.lt_irrefl _)) _ _ _ hP hD hS (lv_sub hl [1, 2, 3, 0] rfl)
  · refine lv_iconst (v := nI 1) hx hb dX6_reason_15 (by decide +kernel) ?_
    exact q_iret hx hb hr hlk (by rw [rsN, if_pos c_12]) hP hS dX6_reason_16
abbrev rm_X6_isInCareer : Room := { frames := 0, cells := 0, slots := 0, locals := 0 }
set_option maxRecDepth 100000 in
set_option maxHeartbeats 4000000 in
theorem c_X6_isInCareer (l : Launch) (D : va_G) (cA : ClassId) (ad : Nat → Nat) (g : Nat → Nat → Int32) (z : Nat → Nat) (i : Nat) (w : Int32) (hi : i < 16) : q_CI l yX6_isInCareer [Cond.code yX6_isInCareer cX6_isInCareer 3 (some .boolean)] rm_X6_isInCareer D cA [.ref (ad 80), .int (nI i), .int w] (mdW cA ad g z) (q_b (icB g w i)) (mdW cA ad g z) := by
  refine q_startI RX6 (by decide +kernel) rfl (Nat.le_of_ble_eq_true rfl) ?_
  intro p e s m below meth c A args H locs ls hx hb hr hml hown hT hlk hP hK hD hA hS hl
  have hl : lv_has ls 3 [(0, .ref (ad 80)), (1, .int (nI i)), (2, .int w)] := hl
  refine lv_aload_n hx hb dX6_isInCareer_0 rfl (lv_at hl 0 rfl) ?_
  refine q_get hx hb hT hown hK hP kw_X6 0 rfl rfl 22 (by decide) kf_X6_67 rfl (v := .ref (ad 22)) rfl dX6_isInCareer_1 ?_
  refine lv_iload_n hx hb dX6_isInCareer_4 rfl (lv_at hl 1 rfl) ?_
  refine q_iald (f := g 22) hx hb hK hP 20 0 rfl rfl (i) rfl (by omega) (by omega) dX6_isInCareer_5 ?_
  refine lv_iload_n hx hb dX6_isInCareer_6 rfl (lv_at hl 2 rfl) ?_
  refine lv_icmp_ne (tgt := 24) hx hb dX6_isInCareer_7 (by decide) (fun c_7 => ?_) (fun c_7 => ?_)
  · refine lv_iconst (v := nI 0) hx hb dX6_isInCareer_24 (by decide +kernel) ?_
    exact q_zret hx hb hr hlk (Or.inl rfl) (by first | exact q_bt (decide_eq_true ⟨c_7, c_17⟩) | exact q_bf (decide_eq_false (fun h => c_7 h.1)) | exact q_bf (decide_eq_false (fun h => h.2 c_17))) hP hS dX6_isInCareer_25
  · refine lv_aload_n hx hb dX6_isInCareer_10 rfl (lv_at hl 0 rfl) ?_
    refine q_get hx hb hT hown hK hP kw_X6 0 rfl rfl 4 (by decide) kf_X6_19 rfl (v := .ref (ad 3)) rfl dX6_isInCareer_11 ?_
    refine lv_iload_n hx hb dX6_isInCareer_14 rfl (lv_at hl 1 rfl) ?_
    refine q_iald (f := g 3) hx hb hK hP 4 0 rfl rfl (i) rfl (by omega) (by omega) dX6_isInCareer_15 ?_
    refine lv_iconst (v := (-1)) hx hb dX6_isInCareer_16 (by decide +kernel) ?_
    refine lv_icmp_eq (tgt := 24) hx hb dX6_isInCareer_17 (by decide) (fun c_17 => ?_) (fun c_17 => ?_)
    · refine lv_iconst (v := nI 0) hx hb dX6_isInCareer_24 (by decide +kernel) ?_
      exact q_zret hx hb hr hlk (Or.inl rfl) (by first | exact q_bt (decide_eq_true ⟨c_7, c_17⟩) | exact q_bf (decide_eq_false (fun h => c_7 h.1)) | exact q_bf (decide_eq_false (fun h => h.2 c_17))) hP hS dX6_isInCareer_25
    · refine lv_iconst (v := nI 1) hx hb dX6_isInCareer_20 (by decide +kernel) ?_
      refine lv_goto (tgt := 25) hx hb dX6_isInCareer_21 (by decide) ?_
      exact q_zret hx hb hr hlk (Or.inr rfl) (by first | exact q_bt (decide_eq_true ⟨c_7, c_17⟩) | exact q_bf (decide_eq_false (fun h => c_7 h.1)) | exact q_bf (decide_eq_false (fun h => h.2 c_17))) hP hS dX6_isInCareer_25
abbrev rm_X6_isEarlier : Room := { frames := 0, cells := 0, slots := 0, locals := 0 }
set_option maxRecDepth 100000 in
set_option maxHeartbeats 4000000 in
theorem c_X6_isEarlier (l : Launch) (D : va_G) (cA : ClassId) (ad : Nat → Nat) (g : Nat → Nat → Int32) (z : Nat → Nat) (i : Nat) (j : Nat) (hi : i < 16) (hj : j < 16) : q_CI l yX6_isEarlier [Cond.code yX6_isEarlier cX6_isEarlier 3 (some .boolean)] rm_X6_isEarlier D cA [.ref (ad 80), .int (nI i), .int (nI j)] (mdW cA ad g z) (q_b (ieB g i j)) (mdW cA ad g z) := by
  refine q_startI RX6 (by decide +kernel) rfl (Nat.le_of_ble_eq_true rfl) ?_
  intro p e s m below meth c A args H locs ls hx hb hr hml hown hT hlk hP hK hD hA hS hl
  have hl : lv_has ls 3 [(0, .ref (ad 80)), (1, .int (nI i)), (2, .int (nI j))] := hl
  refine lv_aload_n hx hb dX6_isEarlier_0 rfl (lv_at hl 0 rfl) ?_
  refine q_get hx hb hT hown hK hP kw_X6 0 rfl rfl 13 (by decide) kf_X6_46 rfl (v := .ref (ad 17)) rfl dX6_isEarlier_1 ?_
  refine lv_iload_n hx hb dX6_isEarlier_4 rfl (lv_at hl 1 rfl) ?_
  refine q_iald (f := g 17) hx hb hK hP 13 0 rfl rfl (i) rfl (by omega) (by omega) dX6_isEarlier_5 ?_
  refine lv_aload_n hx hb dX6_isEarlier_6 rfl (lv_at hl 0 rfl) ?_
  refine q_get hx hb hT hown hK hP kw_X6 0 rfl rfl 13 (by decide) kf_X6_46 rfl (v := .ref (ad 17)) rfl dX6_isEarlier_7 ?_
  refine lv_iload_n hx hb dX6_isEarlier_10 rfl (lv_at hl 2 rfl) ?_
  refine q_iald (f := g 17) hx hb hK hP 13 0 rfl rfl (j) rfl (by omega) (by omega) dX6_isEarlier_11 ?_
  refine lv_icmp_lt (tgt := 35) hx hb dX6_isEarlier_12 (by decide) (fun c_12 => ?_) (fun c_12 => ?_)
  · refine lv_iconst (v := nI 1) hx hb dX6_isEarlier_35 (by decide +kernel) ?_
    refine lv_goto (tgt := 40) hx hb dX6_isEarlier_36 (by decide) ?_
    exact q_zret hx hb hr hlk (Or.inr rfl) (by first | exact q_bt (decide_eq_true (Or.inl c_12)) | exact q_bt (decide_eq_true (Or.inr ⟨c_27, by omega⟩)) | exact q_bf (decide_eq_false (fun h => h.elim c_12 (fun h2 => c_27 h2.1))) | exact q_bf (decide_eq_false (fun h => h.elim c_12 (fun h2 => by omega)))) hP hS dX6_isEarlier_40
  · refine lv_aload_n hx hb dX6_isEarlier_15 rfl (lv_at hl 0 rfl) ?_
    refine q_get hx hb hT hown hK hP kw_X6 0 rfl rfl 13 (by decide) kf_X6_46 rfl (v := .ref (ad 17)) rfl dX6_isEarlier_16 ?_
    refine lv_iload_n hx hb dX6_isEarlier_19 rfl (lv_at hl 1 rfl) ?_
    refine q_iald (f := g 17) hx hb hK hP 13 0 rfl rfl (i) rfl (by omega) (by omega) dX6_isEarlier_20 ?_
    refine lv_aload_n hx hb dX6_isEarlier_21 rfl (lv_at hl 0 rfl) ?_
    refine q_get hx hb hT hown hK hP kw_X6 0 rfl rfl 13 (by decide) kf_X6_46 rfl (v := .ref (ad 17)) rfl dX6_isEarlier_22 ?_
    refine lv_iload_n hx hb dX6_isEarlier_25 rfl (lv_at hl 2 rfl) ?_
    refine q_iald (f := g 17) hx hb hK hP 13 0 rfl rfl (j) rfl (by omega) (by omega) dX6_isEarlier_26 ?_
    refine lv_icmp_ne (tgt := 39) hx hb dX6_isEarlier_27 (by decide) (fun c_27 => ?_) (fun c_27 => ?_)
    · refine lv_iconst (v := nI 0) hx hb dX6_isEarlier_39 (by decide +kernel) ?_
      exact q_zret hx hb hr hlk (Or.inl rfl) (by first | exact q_bt (decide_eq_true (Or.inl c_12)) | exact q_bt (decide_eq_true (Or.inr ⟨c_27, by omega⟩)) | exact q_bf (decide_eq_false (fun h => h.elim c_12 (fun h2 => c_27 h2.1))) | exact q_bf (decide_eq_false (fun h => h.elim c_12 (fun h2 => by omega)))) hP hS dX6_isEarlier_40
    · refine lv_iload_n hx hb dX6_isEarlier_30 rfl (lv_at hl 1 rfl) ?_
      refine lv_iload_n hx hb dX6_isEarlier_31 rfl (lv_at hl 2 rfl) ?_
      refine lv_icmp_ge (tgt := 39) hx hb dX6_isEarlier_32 (by decide) (fun c_32 => ?_) (fun c_32 => ?_)
      · have c_32 := nI_le1 (a := j) (b := i) (by omega) (by omega) c_32
        refine lv_iconst (v := nI 0) hx hb dX6_isEarlier_39 (by decide +kernel) ?_
        exact q_zret hx hb hr hlk (Or.inl rfl) (by first | exact q_bt (decide_eq_true (Or.inl c_12)) | exact q_bt (decide_eq_true (Or.inr ⟨c_27, by omega⟩)) | exact q_bf (decide_eq_false (fun h => h.elim c_12 (fun h2 => c_27 h2.1))) | exact q_bf (decide_eq_false (fun h => h.elim c_12 (fun h2 => by omega)))) hP hS dX6_isEarlier_40
      · have c_32 := nI_le0 (a := j) (b := i) (by omega) (by omega) c_32
        refine lv_iconst (v := nI 1) hx hb dX6_isEarlier_35 (by decide +kernel) ?_
        refine lv_goto (tgt := 40) hx hb dX6_isEarlier_36 (by decide) ?_
        exact q_zret hx hb hr hlk (Or.inr rfl) (by first | exact q_bt (decide_eq_true (Or.inl c_12)) | exact q_bt (decide_eq_true (Or.inr ⟨c_27, by omega⟩)) | exact q_bf (decide_eq_false (fun h => h.elim c_12 (fun h2 => c_27 h2.1))) | exact q_bf (decide_eq_false (fun h => h.elim c_12 (fun h2 => by omega)))) hP hS dX6_isEarlier_40
abbrev rm_X6_inCareer : Room := { frames := 1, cells := 0, slots := 0, locals := 22 }
set_option maxRecDepth 100000 in
set_option maxHeartbeats 4000000 in
theorem c_X6_inCareer (l : Launch) (D : va_G) (cA : ClassId) (ad : Nat → Nat) (g : Nat → Nat → Int32) (z : Nat → Nat) (w : Int32) (p9 : Nat) (hc : (z 0) ≤ 16) (hp9 : p9 < 2147483648) : q_CI l yX6_inCareer [Cond.code yX6_inCareer cX6_inCareer 7 (some .int)] rm_X6_inCareer D cA [.ref (ad 80), .int w, .int (nI p9)] (mdW cA ad g z) (icF g w (z 0) p9 (z 0)) (mdW cA ad g z) := by
  refine q_startI RX6 (by decide +kernel) rfl (Nat.le_of_ble_eq_true rfl) ?_
  intro p e s m below meth c A args H locs ls hx hb hr hml hown hT hlk hP hK hD hA hS hl
  have hl : lv_has ls 7 [(0, .ref (ad 80)), (1, .int w), (2, .int (nI p9))] := hl
  have zqL5 : ∀ (fu : Nat), ∀ (k : Nat), (z 0 + 1 ≤ k + fu) → (k ≤ (z 0)) → ∀ (H : Heap) (locs : List Loc) (ls : Array Slot), va_P D vwCl (mdW cA ad g z) H → va_D A (mdW cA ad g z) → va_S A s.heap H locs → lv_has ls 7 [(0, .ref (ad 80)), (1, .int w), (2, .int (nI p9)), (3, .int (icF g w (z 0) p9 k)), (4, .int (nI k))] → W p l e rm_X6_inCareer s m args below meth c H locs 0 0 (q_GI D (icF g w (z 0) p9 (z 0)) (mdW cA ad g z) A below args s) (F0 m 5 ls []) := by
    intro fu
    induction fu with
    | zero =>
      intro k hfu hk H locs ls hP hD hS hl
      exfalso; omega
    | succ fu ih5 =>
      intro k hfu hk H locs ls hP hD hS hl
      have zqL20 : ∀ (fu : Nat), ∀ (m9 : Nat), (z 0 + 1 ≤ m9 + fu) → (m9 ≤ (z 0)) → (k < (z 0)) → ∀ (H : Heap) (locs : List Loc) (ls : Array Slot), va_P D vwCl (mdW cA ad g z) H → va_D A (mdW cA ad g z) → va_S A s.heap H locs → lv_has ls 7 [(0, .ref (ad 80)), (1, .int w), (2, .int (nI p9)), (3, .int (icF g w (z 0) p9 k)), (4, .int (nI k)), (5, .int (nI (icE g w k m9))), (6, .int (nI m9))] → W p l e rm_X6_inCareer s m args below meth c H locs 0 0 (q_GI D (icF g w (z 0) p9 (z 0)) (mdW cA ad g z) A below args s) (F0 m 20 ls []) := by
        intro fu
        induction fu with
        | zero =>
          intro m9 hfu hm8 hk9 H locs ls hP hD hS hl
          exfalso; omega
        | succ fu ih20 =>
          intro m9 hfu hm8 hk9 H locs ls hP hD hS hl
          have zqJ88 : (m9 = (z 0)) → ∀ (H : Heap) (locs : List Loc) (ls : Array Slot), va_P D vwCl (mdW cA ad g z) H → va_D A (mdW cA ad g z) → va_S A s.heap H locs → lv_has ls 7 [(0, .ref (ad 80)), (1, .int w), (2, .int (nI p9)), (4, .int (nI k))] → W p l e rm_X6_inCareer s m args below meth c H locs 0 0 (q_GI D (icF g w (z 0) p9 (z 0)) (mdW cA ad g z) A below args s) (F0 m 88 ls [.int (icF g w (z 0) p9 (k + 1))]) := by
            intro  hm7 H locs ls hP hD hS hl
            refine lv_istore_n (lv' := [(3, .int (icF g w (z 0) p9 (k + 1))), (0, .ref (ad 80)), (1, .int w), (2, .int (nI p9)), (4, .int (nI k))]) hx hb dX6_inCareer_88 rfl hl (by decide) rfl (fun ls hl => ?_)
            refine lv_iinc (v := nI (k + 1)) (lv' := [(4, .int (nI (k + 1))), (3, .int (icF g w (z 0) p9 (k + 1))), (0, .ref (ad 80)), (1, .int w), (2, .int (nI p9))]) hx hb dX6_inCareer_89 hl (k := 4) rfl (q_inc1 _) (by decide) rfl (fun ls hl => ?_)
            refine lv_goto (tgt := 5) hx hb dX6_inCareer_92 (by decide) ?_
            exact ih5 (k + 1) (by omega) (by omega) _ _ _ hP hD hS (lv_sub hl [2, 3, 4, 1, 0] rfl)
          have zqJ57 : (m9 < (z 0)) → ∀ (H : Heap) (locs : List Loc) (ls : Array Slot), va_P D vwCl (mdW cA ad g z) H → va_D A (mdW cA ad g z) → va_S A s.heap H locs → lv_has ls 7 [(0, .ref (ad 80)), (1, .int w), (2, .int (nI p9)), (3, .int (icF g w (z 0) p9 k)), (4, .int (nI k)), (6, .int (nI m9))] → W p l e rm_X6_inCareer s m args below meth c H locs 0 0 (q_GI D (icF g w (z 0) p9 (z 0)) (mdW cA ad g z) A below args s) (F0 m 57 ls [.int (q_b (icB g w m9 && ieB g m9 k)), .int (nI (icE g w k m9))]) := by
            intro  hm7 H locs ls hP hD hS hl
            refine lv_iadd hx hb dX6_inCareer_57 ?_
            refine q_top (y := nI (icE g w k (m9 + 1))) (icE_addb) ?_
            refine lv_istore (lv' := [(5, .int (nI (icE g w k (m9 + 1)))), (0, .ref (ad 80)), (1, .int w), (2, .int (nI p9)), (3, .int (icF g w (z 0) p9 k)), (4, .int (nI k)), (6, .int (nI m9))]) hx hb dX6_inCareer_58 hl (by decide) rfl (fun ls hl => ?_)
            refine lv_iinc (v := nI (m9 + 1)) (lv' := [(6, .int (nI (m9 + 1))), (5, .int (nI (icE g w k (m9 + 1)))), (0, .ref (ad 80)), (1, .int w), (2, .int (nI p9)), (3, .int (icF g w (z 0) p9 k)), (4, .int (nI k))]) hx hb dX6_inCareer_60 hl (k := 6) rfl (q_inc1 _) (by decide) rfl (fun ls hl => ?_)
            refine lv_goto (tgt := 20) hx hb dX6_inCareer_63 (by decide) ?_
            exact ih20 (m9 + 1) (by omega) (by omega) (by omega) _ _ _ hP hD hS (lv_sub hl [2, 3, 4, 5, 6, 1, 0] rfl)
          refine lv_iload hx hb dX6_inCareer_20 (lv_at hl 6 rfl) ?_
          refine lv_aload_n hx hb dX6_inCareer_22 rfl (lv_at hl 0 rfl) ?_
          refine q_get hx hb hT hown hK hP kw_X6 0 rfl rfl 0 (by decide) kf_X6_86 rfl (v := .int (nI (z 0))) rfl dX6_inCareer_23 ?_
          refine lv_icmp_ge (tgt := 66) hx hb dX6_inCareer_26 (by decide) (fun c_26 => ?_) (fun c_26 => ?_)
          · have c_26 := nI_le1 (a := z 0) (b := m9) (by omega) (by omega) c_26
            have hie := icE_le g w k m9
            have hm6 : m9 = z 0 := by omega
            refine lv_aload_n hx hb dX6_inCareer_66 rfl (lv_at hl 0 rfl) ?_
            refine lv_iload hx hb dX6_inCareer_67 (lv_at hl 4 rfl) ?_
            refine lv_iload_n hx hb dX6_inCareer_69 rfl (lv_at hl 1 rfl) ?_
            refine q_callIW (As := [.int (nI k), .int w]) (r := q_b (icB g w k)) (w1 := mdW cA ad g z) hx hb hml hown hT hK hP hD hS hA (c_X6_isInCareer l D cA ad g z k w (show k < 16 by omega)) k_X6_isInCareer kl_X6_161 (q0 := 0) rfl rfl rfl ((mdW_adr _ _ _ _).trans (mdW_adr _ _ _ _).symm) hl rfl rfl (Nat.le_of_ble_eq_true rfl) ⟨⟨rfl, rfl⟩, Nat.le_of_ble_eq_true rfl, Nat.le_of_ble_eq_true rfl⟩ ⟨Nat.zero_le _, Nat.zero_le _⟩ dX6_inCareer_70 (fun H locs hP hD hS => ?_)
            refine lv_if_eq (tgt := 87) hx hb dX6_inCareer_73 (by decide) (fun c_73 => ?_) (fun c_73 => ?_)
            · have c_73 := q_b0e c_73
              refine lv_iload_n hx hb dX6_inCareer_87 rfl (lv_at hl 3 rfl) ?_
              refine q_top (y := icF g w (z 0) p9 (k + 1)) (by first | exact icF_t c_73 (by rw [← hm6]; exact c_79) | exact icF_f (fun h => Bool.false_ne_true (c_73.symm.trans h.1)) | exact icF_f (fun h => c_79 (by rw [hm6]; exact h.2))) ?_
              exact zqJ88  (by omega) _ _ _ hP hD hS (lv_sub hl [0, 1, 2, 4] rfl)
            · have c_73 := q_b0n c_73
              refine lv_iload hx hb dX6_inCareer_76 (lv_at hl 5 rfl) ?_
              refine lv_iload_n hx hb dX6_inCareer_78 rfl (lv_at hl 2 rfl) ?_
              refine lv_icmp_ne (tgt := 87) hx hb dX6_inCareer_79 (by decide) (fun c_79 => ?_) (fun c_79 => ?_)
              · have c_79 := nI_eq0 (a := icE g w k m9) (b := p9) (by omega) (by omega) c_79
                refine lv_iload_n hx hb dX6_inCareer_87 rfl (lv_at hl 3 rfl) ?_
                refine q_top (y := icF g w (z 0) p9 (k + 1)) (by first | exact icF_t c_73 (by rw [← hm6]; exact c_79) | exact icF_f (fun h => Bool.false_ne_true (c_73.symm.trans h.1)) | exact icF_f (fun h => c_79 (by rw [hm6]; exact h.2))) ?_
                exact zqJ88  (by omega) _ _ _ hP hD hS (lv_sub hl [0, 1, 2, 4] rfl)
              · have c_79 := nI_eq1 (a := icE g w k m9) (b := p9) (by omega) (by omega) c_79
                refine lv_iload hx hb dX6_inCareer_82 (lv_at hl 4 rfl) ?_
                refine lv_goto (tgt := 88) hx hb dX6_inCareer_84 (by decide) ?_
                refine q_top (y := icF g w (z 0) p9 (k + 1)) (by first | exact icF_t c_73 (by rw [← hm6]; exact c_79) | exact icF_f (fun h => Bool.false_ne_true (c_73.symm.trans h.1)) | exact icF_f (fun h => c_79 (by rw [hm6]; exact h.2))) ?_
                exact zqJ88  (by omega) _ _ _ hP hD hS (lv_sub hl [0, 1, 2, 4] rfl)
          · have c_26 := nI_le0 (a := z 0) (b := m9) (by omega) (by omega) c_26
            refine lv_iload hx hb dX6_inCareer_29 (lv_at hl 5 rfl) ?_
            refine lv_aload_n hx hb dX6_inCareer_31 rfl (lv_at hl 0 rfl) ?_
            refine lv_iload hx hb dX6_inCareer_32 (lv_at hl 6 rfl) ?_
            refine lv_iload_n hx hb dX6_inCareer_34 rfl (lv_at hl 1 rfl) ?_
            refine q_callIW (As := [.int (nI m9), .int w]) (r := q_b (icB g w m9)) (w1 := mdW cA ad g z) hx hb hml hown hT hK hP hD hS hA (c_X6_isInCareer l D cA ad g z m9 w (show m9 < 16 by omega)) k_X6_isInCareer kl_X6_161 (q0 := 0) rfl rfl rfl ((mdW_adr _ _ _ _).trans (mdW_adr _ _ _ _).symm) hl rfl rfl (Nat.le_of_ble_eq_true rfl) ⟨⟨rfl, rfl⟩, Nat.le_of_ble_eq_true rfl, Nat.le_of_ble_eq_true rfl⟩ ⟨Nat.zero_le _, Nat.zero_le _⟩ dX6_inCareer_35 (fun H locs hP hD hS => ?_)
            refine lv_if_eq (tgt := 56) hx hb dX6_inCareer_38 (by decide) (fun c_38 => ?_) (fun c_38 => ?_)
            · have c_38 := q_b0e c_38
              refine lv_iconst (v := nI 0) hx hb dX6_inCareer_56 (by decide +kernel) ?_
              refine q_top (y := q_b (icB g w m9 && ieB g m9 k)) (by first | exact q_bt (by rw [c_38, c_49]; rfl) | exact q_bf (by rw [c_38]; rfl) | exact q_bf (by rw [c_38, c_49]; rfl)) ?_
              exact zqJ57  (by omega) _ _ _ hP hD hS (lv_sub hl [0, 1, 2, 3, 4, 6] rfl)
            · have c_38 := q_b0n c_38
              refine lv_aload_n hx hb dX6_inCareer_41 rfl (lv_at hl 0 rfl) ?_
              refine lv_iload hx hb dX6_inCareer_42 (lv_at hl 6 rfl) ?_
              refine lv_iload hx hb dX6_inCareer_44 (lv_at hl 4 rfl) ?_
              refine q_callIW (As := [.int (nI m9), .int (nI k)]) (r := q_b (ieB g m9 k)) (w1 := mdW cA ad g z) hx hb hml hown hT hK hP hD hS hA (c_X6_isEarlier l D cA ad g z m9 k (show m9 < 16 by omega) (show k < 16 by omega)) k_X6_isEarlier kl_X6_164 (q0 := 0) rfl rfl rfl ((mdW_adr _ _ _ _).trans (mdW_adr _ _ _ _).symm) hl rfl rfl (Nat.le_of_ble_eq_true rfl) ⟨⟨rfl, rfl⟩, Nat.le_of_ble_eq_true rfl, Nat.le_of_ble_eq_true rfl⟩ ⟨Nat.zero_le _, Nat.zero_le _⟩ dX6_inCareer_46 (fun H locs hP hD hS => ?_)
              refine lv_if_eq (tgt := 56) hx hb dX6_inCareer_49 (by decide) (fun c_49 => ?_) (fun c_49 => ?_)
              · have c_49 := q_b0e c_49
                refine lv_iconst (v := nI 0) hx hb dX6_inCareer_56 (by decide +kernel) ?_
                refine q_top (y := q_b (icB g w m9 && ieB g m9 k)) (by first | exact q_bt (by rw [c_38, c_49]; rfl) | exact q_bf (by rw [c_38]; rfl) | exact q_bf (by rw [c_38, c_49]; rfl)) ?_
                exact zqJ57  (by omega) _ _ _ hP hD hS (lv_sub hl [0, 1, 2, 3, 4, 6] rfl)
              · have c_49 := q_b0n c_49
                refine lv_iconst (v := nI 1) hx hb dX6_inCareer_52 (by decide +kernel) ?_
                refine lv_goto (tgt := 57) hx hb dX6_inCareer_53 (by decide) ?_
                refine q_top (y := q_b (icB g w m9 && ieB g m9 k)) (by first | exact q_bt (by rw [c_38, c_49]; rfl) | exact q_bf (by rw [c_38]; rfl) | exact q_bf (by rw [c_38, c_49]; rfl)) ?_
                exact zqJ57  (by omega) _ _ _ hP hD hS (lv_sub hl [0, 1, 2, 3, 4, 6] rfl)
      refine lv_iload hx hb dX6_inCareer_5 (lv_at hl 4 rfl) ?_
      refine lv_aload_n hx hb dX6_inCareer_7 rfl (lv_at hl 0 rfl) ?_
      refine q_get hx hb hT hown hK hP kw_X6 0 rfl rfl 0 (by decide) kf_X6_86 rfl (v := .int (nI (z 0))) rfl dX6_inCareer_8 ?_
      refine lv_icmp_ge (tgt := 95) hx hb dX6_inCareer_11 (by decide) (fun c_11 => ?_) (fun c_11 => ?_)
      · have c_11 := nI_le1 (a := z 0) (b := k) (by omega) (by omega) c_11
        refine lv_iload_n hx hb dX6_inCareer_95 rfl (lv_at hl 3 rfl) ?_
        exact q_iret hx hb hr hlk (by rw [show k = z 0 by omega]) hP hS dX6_inCareer_96
      · have c_11 := nI_le0 (a := z 0) (b := k) (by omega) (by omega) c_11
        refine lv_iconst (v := nI 0) hx hb dX6_inCareer_14 (by decide +kernel) ?_
        refine lv_istore (lv' := [(5, .int (nI 0)), (0, .ref (ad 80)), (1, .int w), (2, .int (nI p9)), (3, .int (icF g w (z 0) p9 k)), (4, .int (nI k))]) hx hb dX6_inCareer_15 hl (by decide) rfl (fun ls hl => ?_)
        refine lv_iconst (v := nI 0) hx hb dX6_inCareer_17 (by decide +kernel) ?_
        refine lv_istore (lv' := [(6, .int (nI 0)), (5, .int (nI 0)), (0, .ref (ad 80)), (1, .int w), (2, .int (nI p9)), (3, .int (icF g w (z 0) p9 k)), (4, .int (nI k))]) hx hb dX6_inCareer_18 hl (by decide) rfl (fun ls hl => ?_)
        have e9_0 : (nI 0) = (nI (icE g w k 0)) := by first | with_reducible rfl | (rfl)
        have hl9 : lv_has ls 7 [(0, .ref (ad 80)), (1, .int w), (2, .int (nI p9)), (3, .int (icF g w (z 0) p9 k)), (4, .int (nI k)), (5, .int (nI (icE g w k 0))), (6, .int (nI 0))] := lv_cast (l := [(0, .ref (ad 80)), (1, .int w), (2, .int (nI p9)), (3, .int (icF g w (z 0) p9 k)), (4, .int (nI k)), (5, .int (nI 0)), (6, .int (nI 0))]) (lv_sub hl [2, 3, 4, 5, 6, 1, 0] rfl) (congrArg (fun v9 : Int32 => ([(0, .ref (ad 80)), (1, .int w), (2, .int (nI p9)), (3, .int (icF g w (z 0) p9 k)), (4, .int (nI k)), (5, .int v9), (6, .int (nI 0))] : List (Nat × Value))) e9_0)
        exact zqL20 (z 0 + 1) 0 (by omega) (by omega) (by omega) _ _ _ hP hD hS hl9
  refine lv_iconst (v := (-1)) hx hb dX6_inCareer_0 (by decide +kernel) ?_
  refine lv_istore_n (lv' := [(3, .int (-1)), (0, .ref (ad 80)), (1, .int w), (2, .int (nI p9))]) hx hb dX6_inCareer_1 rfl hl (by decide) rfl (fun ls hl => ?_)
  refine lv_iconst (v := nI 0) hx hb dX6_inCareer_2 (by decide +kernel) ?_
  refine lv_istore (lv' := [(4, .int (nI 0)), (3, .int (-1)), (0, .ref (ad 80)), (1, .int w), (2, .int (nI p9))]) hx hb dX6_inCareer_3 hl (by decide) rfl (fun ls hl => ?_)
  have e9_0 : (-1) = (icF g w (z 0) p9 0) := by first | with_reducible rfl | (rfl)
  have hl9 : lv_has ls 7 [(0, .ref (ad 80)), (1, .int w), (2, .int (nI p9)), (3, .int (icF g w (z 0) p9 0)), (4, .int (nI 0))] := lv_cast (l := [(0, .ref (ad 80)), (1, .int w), (2, .int (nI p9)), (3, .int (-1)), (4, .int (nI 0))]) (lv_sub hl [2, 3, 4, 1, 0] rfl) (congrArg (fun v9 : Int32 => ([(0, .ref (ad 80)), (1, .int w), (2, .int (nI p9)), (3, .int v9), (4, .int (nI 0))] : List (Nat × Value))) e9_0)
  exact zqL5 (z 0 + 1) 0 (by omega) (by omega) _ _ _ hP hD hS hl9
theorem dt_g0 {a b w lo hi F L : Nat → Int32} {t n : Nat} {ma go : Bool} {X : dtT} {u : Nat} (h : dtR a b w lo hi t n u (F, L, ma, go) = X) (h2 : ¬ (ma = true ∧ go = true)) : ma = X.2.2.1 ∧ F = X.1 ∧ L = X.2.1 := by
  rw [dtR_stop (q := (F, L, ma, go)) h2] at h
  subst h
  exact ⟨rfl, rfl, rfl⟩
abbrev rm_X6_dates : Room := { frames := 0, cells := 0, slots := 0, locals := 0 }
set_option maxRecDepth 100000 in
set_option maxHeartbeats 4000000 in
theorem c_X6_dates (l : Launch) (D : va_G) (cA : ClassId) (ad : Nat → Nat) (g : Nat → Nat → Int32) (z : Nat → Nat) (u0 : Nat) (hc : (z 0) ≤ 16) (hE : ∀ k, k < (z 1) → q_r ((g 14) k) 16 ∧ q_r ((g 15) k) 16) (ht : (z 1) ≤ 40) (hst : dtH u0 (g 14) (g 15) (g 16) (g 12) (g 13) (g 19) (g 20) (z 1) (z 0)) : q_CI l yX6_dates [Cond.code yX6_dates cX6_dates 6 (some .boolean)] rm_X6_dates D cA [.ref (ad 80)] (mdW cA ad g z) (q_b ((dtD u0 (g 14) (g 15) (g 16) (g 12) (g 13) (g 19) (g 20) (z 1) (z 0)).2.2.1)) (mdW cA ad (gs (gs g 19 ((dtD u0 (g 14) (g 15) (g 16) (g 12) (g 13) (g 19) (g 20) (z 1) (z 0)).1)) 20 ((dtD u0 (g 14) (g 15) (g 16) (g 12) (g 13) (g 19) (g 20) (z 1) (z 0)).2.1)) z) := by
  refine q_startI RX6 (by decide +kernel) rfl (Nat.le_of_ble_eq_true rfl) ?_
  intro p e s m below meth c A args H locs ls hx hb hr hml hown hT hlk hP hK hD hA hS hl
  have hl : lv_has ls 6 [(0, .ref (ad 80))] := hl
  have zqL44 : ∀ (fu : Nat), ∀ (F L : Nat → Int32) (ma go : Bool), (∃ u, u + 1 = fu ∧ dtE (g 14) (g 15) (g 16) (g 12) (g 13) (z 1) (z 0) u (F, L, ma, go) ∧ dtR (g 14) (g 15) (g 16) (g 12) (g 13) (z 1) (z 0) u (F, L, ma, go) = dtD u0 (g 14) (g 15) (g 16) (g 12) (g 13) (g 19) (g 20) (z 1) (z 0)) → ∀ (H : Heap) (locs : List Loc) (ls : Array Slot), va_P D vwCl (mdW cA ad (gs (gs g 19 F) 20 L) z) H → va_D A (mdW cA ad (gs (gs g 19 F) 20 L) z) → va_S A s.heap H locs → lv_has ls 6 [(0, .ref (ad 80)), (1, .int (q_b ma)), (2, .int (q_b go))] → W p l e rm_X6_dates s m args below meth c H locs 0 0 (q_GI D (q_b ((dtD u0 (g 14) (g 15) (g 16) (g 12) (g 13) (g 19) (g 20) (z 1) (z 0)).2.2.1)) (mdW cA ad (gs (gs g 19 ((dtD u0 (g 14) (g 15) (g 16) (g 12) (g 13) (g 19) (g 20) (z 1) (z 0)).1)) 20 ((dtD u0 (g 14) (g 15) (g 16) (g 12) (g 13) (g 19) (g 20) (z 1) (z 0)).2.1)) z) A below args s) (F0 m 44 ls []) := by
    intro fu
    induction fu with
    | zero =>
      intro F L ma go hfu  H locs ls hP hD hS hl
      obtain ⟨u9, hu9, _⟩ := hfu; omega
    | succ fu ih44 =>
      intro F L ma go hfu  H locs ls hP hD hS hl
      obtain ⟨u9, hu9, hd1, hd2⟩ := hfu
      have zqL182 : ∀ (fu : Nat), ∀ (k : Nat), (z 0 + 1 ≤ k + fu) → (k ≤ (z 0)) → (ma = true ∧ go = true) → ∀ (H : Heap) (locs : List Loc) (ls : Array Slot), va_P D vwCl (mdW cA ad (gs (gs g 19 (psF (g 14) (g 15) (g 16) F (z 1))) 20 (psL (g 14) (g 15) (g 16) L (z 1))) z) H → va_D A (mdW cA ad (gs (gs g 19 (psF (g 14) (g 15) (g 16) F (z 1))) 20 (psL (g 14) (g 15) (g 16) L (z 1))) z) → va_S A s.heap H locs → lv_has ls 6 [(0, .ref (ad 80)), (1, .int (q_b (mayN (psF (g 14) (g 15) (g 16) F (z 1)) (psL (g 14) (g 15) (g 16) L (z 1)) (g 12) (g 13) k))), (2, .int (q_b (psC (g 14) (g 15) (g 16) F L (z 1)))), (3, .int (nI k))] → W p l e rm_X6_dates s m args below meth c H locs 0 0 (q_GI D (q_b ((dtD u0 (g 14) (g 15) (g 16) (g 12) (g 13) (g 19) (g 20) (z 1) (z 0)).2.2.1)) (mdW cA ad (gs (gs g 19 ((dtD u0 (g 14) (g 15) (g 16) (g 12) (g 13) (g 19) (g 20) (z 1) (z 0)).1)) 20 ((dtD u0 (g 14) (g 15) (g 16) (g 12) (g 13) (g 19) (g 20) (z 1) (z 0)).2.1)) z) A below args s) (F0 m 182 ls []) := by
        intro fu
        induction fu with
        | zero =>
          intro k hfu hk hmg H locs ls hP hD hS hl
          exfalso; omega
        | succ fu ih182 =>
          intro k hfu hk hmg H locs ls hP hD hS hl
          have zqJ241 : (k < (z 0)) → ∀ (H : Heap) (locs : List Loc) (ls : Array Slot), va_P D vwCl (mdW cA ad (gs (gs g 19 (psF (g 14) (g 15) (g 16) F (z 1))) 20 (psL (g 14) (g 15) (g 16) L (z 1))) z) H → va_D A (mdW cA ad (gs (gs g 19 (psF (g 14) (g 15) (g 16) F (z 1))) 20 (psL (g 14) (g 15) (g 16) L (z 1))) z) → va_S A s.heap H locs → lv_has ls 6 [(0, .ref (ad 80)), (2, .int (q_b (psC (g 14) (g 15) (g 16) F L (z 1)))), (3, .int (nI k))] → W p l e rm_X6_dates s m args below meth c H locs 0 0 (q_GI D (q_b ((dtD u0 (g 14) (g 15) (g 16) (g 12) (g 13) (g 19) (g 20) (z 1) (z 0)).2.2.1)) (mdW cA ad (gs (gs g 19 ((dtD u0 (g 14) (g 15) (g 16) (g 12) (g 13) (g 19) (g 20) (z 1) (z 0)).1)) 20 ((dtD u0 (g 14) (g 15) (g 16) (g 12) (g 13) (g 19) (g 20) (z 1) (z 0)).2.1)) z) A below args s) (F0 m 241 ls [.int (q_b (decide ((psF (g 14) (g 15) (g 16) F (z 1)) k ≤ g 13 k ∧ ¬ (psL (g 14) (g 15) (g 16) L (z 1)) k < g 12 k ∧ (psF (g 14) (g 15) (g 16) F (z 1)) k ≤ (psL (g 14) (g 15) (g 16) L (z 1)) k))), .int (q_b (mayN (psF (g 14) (g 15) (g 16) F (z 1)) (psL (g 14) (g 15) (g 16) L (z 1)) (g 12) (g 13) k))]) := by
            intro  hk9 H locs ls hP hD hS hl
            refine lv_iand hx hb dX6_dates_241 ?_
            refine q_top (y := q_b (mayN (psF (g 14) (g 15) (g 16) F (z 1)) (psL (g 14) (g 15) (g 16) L (z 1)) (g 12) (g 13) (k + 1))) (q_b_and _ _) ?_
            refine lv_istore_n (lv' := [(1, .int (q_b (mayN (psF (g 14) (g 15) (g 16) F (z 1)) (psL (g 14) (g 15) (g 16) L (z 1)) (g 12) (g 13) (k + 1)))), (0, .ref (ad 80)), (2, .int (q_b (psC (g 14) (g 15) (g 16) F L (z 1)))), (3, .int (nI k))]) hx hb dX6_dates_242 rfl hl (by decide) rfl (fun ls hl => ?_)
            refine lv_iinc (v := nI (k + 1)) (lv' := [(3, .int (nI (k + 1))), (1, .int (q_b (mayN (psF (g 14) (g 15) (g 16) F (z 1)) (psL (g 14) (g 15) (g 16) L (z 1)) (g 12) (g 13) (k + 1)))), (0, .ref (ad 80)), (2, .int (q_b (psC (g 14) (g 15) (g 16) F L (z 1))))]) hx hb dX6_dates_243 hl (k := 3) rfl (q_inc1 _) (by decide) rfl (fun ls hl => ?_)
            refine lv_goto (tgt := 182) hx hb dX6_dates_246 (by decide) ?_
            exact ih182 (k + 1) (by omega) (by omega) hmg _ _ _ hP hD hS (lv_sub hl [2, 1, 3, 0] rfl)
          refine lv_iload_n hx hb dX6_dates_182 rfl (lv_at hl 3 rfl) ?_
          refine lv_aload_n hx hb dX6_dates_183 rfl (lv_at hl 0 rfl) ?_
          refine q_get hx hb hT hown hK hP kw_X6 0 rfl rfl 0 (by decide) kf_X6_86 rfl (v := .int (nI (z 0))) rfl dX6_dates_184 ?_
          refine lv_icmp_ge (tgt := 249) hx hb dX6_dates_187 (by decide) (fun c_187 => ?_) (fun c_187 => ?_)
          · have c_187 := nI_le1 (a := z 0) (b := k) (by omega) (by omega) c_187
            obtain ⟨v9, rfl⟩ : ∃ v, u9 = v + 1 := by
              cases u9 with
              | zero => exact absurd hmg hd1
              | succ v => exact ⟨v, rfl⟩
            refine lv_goto (tgt := 44) hx hb dX6_dates_249 (by decide) ?_
            have e9_0 : (q_b (mayN (psF (g 14) (g 15) (g 16) F (z 1)) (psL (g 14) (g 15) (g 16) L (z 1)) (g 12) (g 13) k)) = (q_b (mayN (psF (g 14) (g 15) (g 16) F (z 1)) (psL (g 14) (g 15) (g 16) L (z 1)) (g 12) (g 13) (z 0))) := by first | with_reducible rfl | (rw [show k = z 0 by omega])
            have hl9 : lv_has ls 6 [(0, .ref (ad 80)), (1, .int (q_b (mayN (psF (g 14) (g 15) (g 16) F (z 1)) (psL (g 14) (g 15) (g 16) L (z 1)) (g 12) (g 13) (z 0)))), (2, .int (q_b (psC (g 14) (g 15) (g 16) F L (z 1))))] := lv_cast (l := [(0, .ref (ad 80)), (1, .int (q_b (mayN (psF (g 14) (g 15) (g 16) F (z 1)) (psL (g 14) (g 15) (g 16) L (z 1)) (g 12) (g 13) k))), (2, .int (q_b (psC (g 14) (g 15) (g 16) F L (z 1))))]) (lv_sub hl [0, 1, 2] rfl) (congrArg (fun v9 : Int32 => ([(0, .ref (ad 80)), (1, .int v9), (2, .int (q_b (psC (g 14) (g 15) (g 16) F L (z 1))))] : List (Nat × Value))) e9_0)
            exact ih44 (psF (g 14) (g 15) (g 16) F (z 1)) (psL (g 14) (g 15) (g 16) L (z 1)) (mayN (psF (g 14) (g 15) (g 16) F (z 1)) (psL (g 14) (g 15) (g 16) L (z 1)) (g 12) (g 13) (z 0)) (psC (g 14) (g 15) (g 16) F L (z 1)) ⟨v9, by omega, hd1 hmg, (dtR_go hmg).symm.trans hd2⟩  _ _ _ hP hD hS hl9
          · have c_187 := nI_le0 (a := z 0) (b := k) (by omega) (by omega) c_187
            refine lv_iload_n hx hb dX6_dates_190 rfl (lv_at hl 1 rfl) ?_
            refine lv_aload_n hx hb dX6_dates_191 rfl (lv_at hl 0 rfl) ?_
            refine q_get hx hb hT hown hK hP kw_X6 0 rfl rfl 15 (by decide) kf_X6_52 rfl (v := .ref (ad 19)) rfl dX6_dates_192 ?_
            refine lv_iload_n hx hb dX6_dates_195 rfl (lv_at hl 3 rfl) ?_
            refine q_iald (f := psF (g 14) (g 15) (g 16) F (z 1)) hx hb hK hP 15 0 rfl rfl (k) rfl (by omega) (by omega) dX6_dates_196 ?_
            refine lv_aload_n hx hb dX6_dates_197 rfl (lv_at hl 0 rfl) ?_
            refine q_get hx hb hT hown hK hP kw_X6 0 rfl rfl 12 (by decide) kf_X6_43 rfl (v := .ref (ad 13)) rfl dX6_dates_198 ?_
            refine lv_iload_n hx hb dX6_dates_201 rfl (lv_at hl 3 rfl) ?_
            refine q_iald (f := g 13) hx hb hK hP 12 0 rfl rfl (k) rfl (by omega) (by omega) dX6_dates_202 ?_
            refine lv_icmp_gt (tgt := 240) hx hb dX6_dates_203 (by decide) (fun c_203 => ?_) (fun c_203 => ?_)
            · refine lv_iconst (v := nI 0) hx hb dX6_dates_240 (by decide +kernel) ?_
              refine q_top (y := q_b (decide ((psF (g 14) (g 15) (g 16) F (z 1)) k ≤ g 13 k ∧ ¬ (psL (g 14) (g 15) (g 16) L (z 1)) k < g 12 k ∧ (psF (g 14) (g 15) (g 16) F (z 1)) k ≤ (psL (g 14) (g 15) (g 16) L (z 1)) k))) (by first | exact q_bt (decide_eq_true ⟨Int32.not_lt.mp c_203, c_218, Int32.not_lt.mp c_233⟩) | exact q_bf (decide_eq_false (fun h => Int32.not_lt.mpr h.1 c_203)) | exact q_bf (decide_eq_false (fun h => h.2.1 c_218)) | exact q_bf (decide_eq_false (fun h => Int32.not_lt.mpr h.2.2 c_233))) ?_
              exact zqJ241  (by omega) _ _ _ hP hD hS (lv_sub hl [0, 2, 3] rfl)
            · refine lv_aload_n hx hb dX6_dates_206 rfl (lv_at hl 0 rfl) ?_
              refine q_get hx hb hT hown hK hP kw_X6 0 rfl rfl 16 (by decide) kf_X6_55 rfl (v := .ref (ad 20)) rfl dX6_dates_207 ?_
              refine lv_iload_n hx hb dX6_dates_210 rfl (lv_at hl 3 rfl) ?_
              refine q_iald (f := psL (g 14) (g 15) (g 16) L (z 1)) hx hb hK hP 16 0 rfl rfl (k) rfl (by omega) (by omega) dX6_dates_211 ?_
              refine lv_aload_n hx hb dX6_dates_212 rfl (lv_at hl 0 rfl) ?_
              refine q_get hx hb hT hown hK hP kw_X6 0 rfl rfl 11 (by decide) kf_X6_40 rfl (v := .ref (ad 12)) rfl dX6_dates_213 ?_
              refine lv_iload_n hx hb dX6_dates_216 rfl (lv_at hl 3 rfl) ?_
              refine q_iald (f := g 12) hx hb hK hP 11 0 rfl rfl (k) rfl (by omega) (by omega) dX6_dates_217 ?_
              refine lv_icmp_lt (tgt := 240) hx hb dX6_dates_218 (by decide) (fun c_218 => ?_) (fun c_218 => ?_)
              · refine lv_iconst (v := nI 0) hx hb dX6_dates_240 (by decide +kernel) ?_
                refine q_top (y := q_b (decide ((psF (g 14) (g 15) (g 16) F (z 1)) k ≤ g 13 k ∧ ¬ (psL (g 14) (g 15) (g 16) L (z 1)) k < g 12 k ∧ (psF (g 14) (g 15) (g 16) F (z 1)) k ≤ (psL (g 14) (g 15) (g 16) L (z 1)) k))) (by first | exact q_bt (decide_eq_true ⟨Int32.not_lt.mp c_203, c_218, Int32.not_lt.mp c_233⟩) | exact q_bf (decide_eq_false (fun h => Int32.not_lt.mpr h.1 c_203)) | exact q_bf (decide_eq_false (fun h => h.2.1 c_218)) | exact q_bf (decide_eq_false (fun h => Int32.not_lt.mpr h.2.2 c_233))) ?_
                exact zqJ241  (by omega) _ _ _ hP hD hS (lv_sub hl [0, 2, 3] rfl)
              · refine lv_aload_n hx hb dX6_dates_221 rfl (lv_at hl 0 rfl) ?_
                refine q_get hx hb hT hown hK hP kw_X6 0 rfl rfl 15 (by decide) kf_X6_52 rfl (v := .ref (ad 19)) rfl dX6_dates_222 ?_
                refine lv_iload_n hx hb dX6_dates_225 rfl (lv_at hl 3 rfl) ?_
                refine q_iald (f := psF (g 14) (g 15) (g 16) F (z 1)) hx hb hK hP 15 0 rfl rfl (k) rfl (by omega) (by omega) dX6_dates_226 ?_
                refine lv_aload_n hx hb dX6_dates_227 rfl (lv_at hl 0 rfl) ?_
                refine q_get hx hb hT hown hK hP kw_X6 0 rfl rfl 16 (by decide) kf_X6_55 rfl (v := .ref (ad 20)) rfl dX6_dates_228 ?_
                refine lv_iload_n hx hb dX6_dates_231 rfl (lv_at hl 3 rfl) ?_
                refine q_iald (f := psL (g 14) (g 15) (g 16) L (z 1)) hx hb hK hP 16 0 rfl rfl (k) rfl (by omega) (by omega) dX6_dates_232 ?_
                refine lv_icmp_gt (tgt := 240) hx hb dX6_dates_233 (by decide) (fun c_233 => ?_) (fun c_233 => ?_)
                · refine lv_iconst (v := nI 0) hx hb dX6_dates_240 (by decide +kernel) ?_
                  refine q_top (y := q_b (decide ((psF (g 14) (g 15) (g 16) F (z 1)) k ≤ g 13 k ∧ ¬ (psL (g 14) (g 15) (g 16) L (z 1)) k < g 12 k ∧ (psF (g 14) (g 15) (g 16) F (z 1)) k ≤ (psL (g 14) (g 15) (g 16) L (z 1)) k))) (by first | exact q_bt (decide_eq_true ⟨Int32.not_lt.mp c_203, c_218, Int32.not_lt.mp c_233⟩) | exact q_bf (decide_eq_false (fun h => Int32.not_lt.mpr h.1 c_203)) | exact q_bf (decide_eq_false (fun h => h.2.1 c_218)) | exact q_bf (decide_eq_false (fun h => Int32.not_lt.mpr h.2.2 c_233))) ?_
                  exact zqJ241  (by omega) _ _ _ hP hD hS (lv_sub hl [0, 2, 3] rfl)
                · refine lv_iconst (v := nI 1) hx hb dX6_dates_236 (by decide +kernel) ?_
                  refine lv_goto (tgt := 241) hx hb dX6_dates_237 (by decide) ?_
                  refine q_top (y := q_b (decide ((psF (g 14) (g 15) (g 16) F (z 1)) k ≤ g 13 k ∧ ¬ (psL (g 14) (g 15) (g 16) L (z 1)) k < g 12 k ∧ (psF (g 14) (g 15) (g 16) F (z 1)) k ≤ (psL (g 14) (g 15) (g 16) L (z 1)) k))) (by first | exact q_bt (decide_eq_true ⟨Int32.not_lt.mp c_203, c_218, Int32.not_lt.mp c_233⟩) | exact q_bf (decide_eq_false (fun h => Int32.not_lt.mpr h.1 c_203)) | exact q_bf (decide_eq_false (fun h => h.2.1 c_218)) | exact q_bf (decide_eq_false (fun h => Int32.not_lt.mpr h.2.2 c_233))) ?_
                  exact zqJ241  (by omega) _ _ _ hP hD hS (lv_sub hl [0, 2, 3] rfl)
      have zqL56 : ∀ (fu : Nat), ∀ (k : Nat), (z 1 + 1 ≤ k + fu) → (k ≤ (z 1)) → (ma = true ∧ go = true) → ∀ (H : Heap) (locs : List Loc) (ls : Array Slot), va_P D vwCl (mdW cA ad (gs (gs g 19 (psF (g 14) (g 15) (g 16) F k)) 20 (psL (g 14) (g 15) (g 16) L k)) z) H → va_D A (mdW cA ad (gs (gs g 19 (psF (g 14) (g 15) (g 16) F k)) 20 (psL (g 14) (g 15) (g 16) L k)) z) → va_S A s.heap H locs → lv_has ls 6 [(0, .ref (ad 80)), (1, .int (q_b ma)), (2, .int (q_b (psC (g 14) (g 15) (g 16) F L k))), (3, .int (nI k))] → W p l e rm_X6_dates s m args below meth c H locs 0 0 (q_GI D (q_b ((dtD u0 (g 14) (g 15) (g 16) (g 12) (g 13) (g 19) (g 20) (z 1) (z 0)).2.2.1)) (mdW cA ad (gs (gs g 19 ((dtD u0 (g 14) (g 15) (g 16) (g 12) (g 13) (g 19) (g 20) (z 1) (z 0)).1)) 20 ((dtD u0 (g 14) (g 15) (g 16) (g 12) (g 13) (g 19) (g 20) (z 1) (z 0)).2.1)) z) A below args s) (F0 m 56 ls []) := by
        intro fu
        induction fu with
        | zero =>
          intro k hfu hk hmg H locs ls hP hD hS hl
          exfalso; omega
        | succ fu ih56 =>
          intro k hfu hk hmg H locs ls hP hD hS hl
          have zqJ174 : (k < (z 1)) → ∀ (H : Heap) (locs : List Loc) (ls : Array Slot), va_P D vwCl (mdW cA ad (gs (gs g 19 (psF (g 14) (g 15) (g 16) F (k + 1))) 20 (psL (g 14) (g 15) (g 16) L (k + 1))) z) H → va_D A (mdW cA ad (gs (gs g 19 (psF (g 14) (g 15) (g 16) F (k + 1))) 20 (psL (g 14) (g 15) (g 16) L (k + 1))) z) → va_S A s.heap H locs → lv_has ls 6 [(0, .ref (ad 80)), (1, .int (q_b ma)), (2, .int (q_b (psC (g 14) (g 15) (g 16) F L k || decide (psF (g 14) (g 15) (g 16) F k (q_n (g 15 k)) < psF (g 14) (g 15) (g 16) F k (q_n (g 14 k)) + g 16 k) || decide (psL (g 14) (g 15) (g 16) L k (q_n (g 15 k)) - g 16 k < psL (g 14) (g 15) (g 16) L k (q_n (g 14 k)))))), (3, .int (nI k))] → W p l e rm_X6_dates s m args below meth c H locs 0 0 (q_GI D (q_b ((dtD u0 (g 14) (g 15) (g 16) (g 12) (g 13) (g 19) (g 20) (z 1) (z 0)).2.2.1)) (mdW cA ad (gs (gs g 19 ((dtD u0 (g 14) (g 15) (g 16) (g 12) (g 13) (g 19) (g 20) (z 1) (z 0)).1)) 20 ((dtD u0 (g 14) (g 15) (g 16) (g 12) (g 13) (g 19) (g 20) (z 1) (z 0)).2.1)) z) A below args s) (F0 m 174 ls []) := by
            intro  hk9 H locs ls hP hD hS hl
            refine lv_iinc (v := nI (k + 1)) (lv' := [(3, .int (nI (k + 1))), (0, .ref (ad 80)), (1, .int (q_b ma)), (2, .int (q_b (psC (g 14) (g 15) (g 16) F L k || decide (psF (g 14) (g 15) (g 16) F k (q_n (g 15 k)) < psF (g 14) (g 15) (g 16) F k (q_n (g 14 k)) + g 16 k) || decide (psL (g 14) (g 15) (g 16) L k (q_n (g 15 k)) - g 16 k < psL (g 14) (g 15) (g 16) L k (q_n (g 14 k))))))]) hx hb dX6_dates_174 hl (k := 3) rfl (q_inc1 _) (by decide) rfl (fun ls hl => ?_)
            refine lv_goto (tgt := 56) hx hb dX6_dates_177 (by decide) ?_
            have e9_0 : (q_b (psC (g 14) (g 15) (g 16) F L k || decide (psF (g 14) (g 15) (g 16) F k (q_n (g 15 k)) < psF (g 14) (g 15) (g 16) F k (q_n (g 14 k)) + g 16 k) || decide (psL (g 14) (g 15) (g 16) L k (q_n (g 15 k)) - g 16 k < psL (g 14) (g 15) (g 16) L k (q_n (g 14 k))))) = (q_b (psC (g 14) (g 15) (g 16) F L (k + 1))) := by first | with_reducible rfl | (rfl)
            have hl9 : lv_has ls 6 [(0, .ref (ad 80)), (1, .int (q_b ma)), (2, .int (q_b (psC (g 14) (g 15) (g 16) F L (k + 1)))), (3, .int (nI (k + 1)))] := lv_cast (l := [(0, .ref (ad 80)), (1, .int (q_b ma)), (2, .int (q_b (psC (g 14) (g 15) (g 16) F L k || decide (psF (g 14) (g 15) (g 16) F k (q_n (g 15 k)) < psF (g 14) (g 15) (g 16) F k (q_n (g 14 k)) + g 16 k) || decide (psL (g 14) (g 15) (g 16) L k (q_n (g 15 k)) - g 16 k < psL (g 14) (g 15) (g 16) L k (q_n (g 14 k)))))), (3, .int (nI (k + 1)))]) (lv_sub hl [1, 2, 3, 0] rfl) (congrArg (fun v9 : Int32 => ([(0, .ref (ad 80)), (1, .int (q_b ma)), (2, .int v9), (3, .int (nI (k + 1)))] : List (Nat × Value))) e9_0)
            exact ih56 (k + 1) (by omega) (by omega) hmg _ _ _ hP hD hS hl9
          have zqJ127 : (k < (z 1)) → ∀ (H : Heap) (locs : List Loc) (ls : Array Slot), va_P D vwCl (mdW cA ad (gs (gs g 19 (psF (g 14) (g 15) (g 16) F (k + 1))) 20 (psL (g 14) (g 15) (g 16) L k)) z) H → va_D A (mdW cA ad (gs (gs g 19 (psF (g 14) (g 15) (g 16) F (k + 1))) 20 (psL (g 14) (g 15) (g 16) L k)) z) → va_S A s.heap H locs → lv_has ls 6 [(0, .ref (ad 80)), (1, .int (q_b ma)), (2, .int (q_b (psC (g 14) (g 15) (g 16) F L k || decide (psF (g 14) (g 15) (g 16) F k (q_n (g 15 k)) < psF (g 14) (g 15) (g 16) F k (q_n (g 14 k)) + g 16 k)))), (3, .int (nI k)), (4, .int (nI (q_n (g 14 k)))), (5, .int (nI (q_n (g 15 k))))] → W p l e rm_X6_dates s m args below meth c H locs 0 0 (q_GI D (q_b ((dtD u0 (g 14) (g 15) (g 16) (g 12) (g 13) (g 19) (g 20) (z 1) (z 0)).2.2.1)) (mdW cA ad (gs (gs g 19 ((dtD u0 (g 14) (g 15) (g 16) (g 12) (g 13) (g 19) (g 20) (z 1) (z 0)).1)) 20 ((dtD u0 (g 14) (g 15) (g 16) (g 12) (g 13) (g 19) (g 20) (z 1) (z 0)).2.1)) z) A below args s) (F0 m 127 ls []) := by
            intro  hk9 H locs ls hP hD hS hl
            refine lv_aload_n hx hb dX6_dates_127 rfl (lv_at hl 0 rfl) ?_
            refine q_get hx hb hT hown hK hP kw_X6 0 rfl rfl 16 (by decide) kf_X6_55 rfl (v := .ref (ad 20)) rfl dX6_dates_128 ?_
            refine lv_iload hx hb dX6_dates_131 (lv_at hl 4 rfl) ?_
            refine q_iald (f := psL (g 14) (g 15) (g 16) L k) hx hb hK hP 16 0 rfl rfl (q_n (g 14 k)) rfl ((hE k (by omega)).1.lt (by omega)) (by omega) dX6_dates_133 ?_
            refine lv_aload_n hx hb dX6_dates_134 rfl (lv_at hl 0 rfl) ?_
            refine q_get hx hb hT hown hK hP kw_X6 0 rfl rfl 16 (by decide) kf_X6_55 rfl (v := .ref (ad 20)) rfl dX6_dates_135 ?_
            refine lv_iload hx hb dX6_dates_138 (lv_at hl 5 rfl) ?_
            refine q_iald (f := psL (g 14) (g 15) (g 16) L k) hx hb hK hP 16 0 rfl rfl (q_n (g 15 k)) rfl ((hE k (by omega)).2.lt (by omega)) (by omega) dX6_dates_140 ?_
            refine lv_aload_n hx hb dX6_dates_141 rfl (lv_at hl 0 rfl) ?_
            refine q_get hx hb hT hown hK hP kw_X6 0 rfl rfl 20 (by decide) kf_X6_64 rfl (v := .ref (ad 16)) rfl dX6_dates_142 ?_
            refine lv_iload_n hx hb dX6_dates_145 rfl (lv_at hl 3 rfl) ?_
            refine q_iald (f := g 16) hx hb hK hP 19 0 rfl rfl (k) rfl (by omega) (by omega) dX6_dates_146 ?_
            refine lv_isub hx hb dX6_dates_147 ?_
            refine lv_icmp_le (tgt := 174) hx hb dX6_dates_148 (by decide) (fun c_148 => ?_) (fun c_148 => ?_)
            · have d_148 := q_nlt3 c_148
              have e9_0 : (q_b (psC (g 14) (g 15) (g 16) F L k || decide (psF (g 14) (g 15) (g 16) F k (q_n (g 15 k)) < psF (g 14) (g 15) (g 16) F k (q_n (g 14 k)) + g 16 k))) = (q_b (psC (g 14) (g 15) (g 16) F L k || decide (psF (g 14) (g 15) (g 16) F k (q_n (g 15 k)) < psF (g 14) (g 15) (g 16) F k (q_n (g 14 k)) + g 16 k) || decide (psL (g 14) (g 15) (g 16) L k (q_n (g 15 k)) - g 16 k < psL (g 14) (g 15) (g 16) L k (q_n (g 14 k))))) := by first | with_reducible rfl | (rw [decide_eq_false d_148, Bool.or_false])
              have hl9 : lv_has ls 6 [(0, .ref (ad 80)), (1, .int (q_b ma)), (2, .int (q_b (psC (g 14) (g 15) (g 16) F L k || decide (psF (g 14) (g 15) (g 16) F k (q_n (g 15 k)) < psF (g 14) (g 15) (g 16) F k (q_n (g 14 k)) + g 16 k) || decide (psL (g 14) (g 15) (g 16) L k (q_n (g 15 k)) - g 16 k < psL (g 14) (g 15) (g 16) L k (q_n (g 14 k)))))), (3, .int (nI k))] := lv_cast (l := [(0, .ref (ad 80)), (1, .int (q_b ma)), (2, .int (q_b (psC (g 14) (g 15) (g 16) F L k || decide (psF (g 14) (g 15) (g 16) F k (q_n (g 15 k)) < psF (g 14) (g 15) (g 16) F k (q_n (g 14 k)) + g 16 k)))), (3, .int (nI k))]) (lv_sub hl [0, 1, 2, 3] rfl) (congrArg (fun v9 : Int32 => ([(0, .ref (ad 80)), (1, .int (q_b ma)), (2, .int v9), (3, .int (nI k))] : List (Nat × Value))) e9_0)
              have ew9 : (mdW cA ad (gs (gs g 19 (psF (g 14) (g 15) (g 16) F (k + 1))) 20 (psL (g 14) (g 15) (g 16) L k)) z) = (mdW cA ad (gs (gs g 19 (psF (g 14) (g 15) (g 16) F (k + 1))) 20 (psL (g 14) (g 15) (g 16) L (k + 1))) z) := by first | with_reducible rfl | (rw [psL_f d_148])
              have hP : va_P D vwCl (mdW cA ad (gs (gs g 19 (psF (g 14) (g 15) (g 16) F (k + 1))) 20 (psL (g 14) (g 15) (g 16) L (k + 1))) z) H := va_cast' hP ew9
              have hD : va_D A (mdW cA ad (gs (gs g 19 (psF (g 14) (g 15) (g 16) F (k + 1))) 20 (psL (g 14) (g 15) (g 16) L (k + 1))) z) := va_castD hD ew9
              exact zqJ174  (by omega) _ _ _ hP hD hS hl9
            · have d_148 := q_lt3 c_148
              refine lv_aload_n hx hb dX6_dates_151 rfl (lv_at hl 0 rfl) ?_
              refine q_get hx hb hT hown hK hP kw_X6 0 rfl rfl 16 (by decide) kf_X6_55 rfl (v := .ref (ad 20)) rfl dX6_dates_152 ?_
              refine lv_iload hx hb dX6_dates_155 (lv_at hl 4 rfl) ?_
              refine lv_aload_n hx hb dX6_dates_157 rfl (lv_at hl 0 rfl) ?_
              refine q_get hx hb hT hown hK hP kw_X6 0 rfl rfl 16 (by decide) kf_X6_55 rfl (v := .ref (ad 20)) rfl dX6_dates_158 ?_
              refine lv_iload hx hb dX6_dates_161 (lv_at hl 5 rfl) ?_
              refine q_iald (f := psL (g 14) (g 15) (g 16) L k) hx hb hK hP 16 0 rfl rfl (q_n (g 15 k)) rfl ((hE k (by omega)).2.lt (by omega)) (by omega) dX6_dates_163 ?_
              refine lv_aload_n hx hb dX6_dates_164 rfl (lv_at hl 0 rfl) ?_
              refine q_get hx hb hT hown hK hP kw_X6 0 rfl rfl 20 (by decide) kf_X6_64 rfl (v := .ref (ad 16)) rfl dX6_dates_165 ?_
              refine lv_iload_n hx hb dX6_dates_168 rfl (lv_at hl 3 rfl) ?_
              refine q_iald (f := g 16) hx hb hK hP 19 0 rfl rfl (k) rfl (by omega) (by omega) dX6_dates_169 ?_
              refine lv_isub hx hb dX6_dates_170 ?_
              refine q_iast (f := psL (g 14) (g 15) (g 16) L k) (ws1 := mdW cA ad (gs (gs g 19 (psF (g 14) (g 15) (g 16) F (k + 1))) 20 (upd (psL (g 14) (g 15) (g 16) L k) (q_n (g 14 k)) (((psL (g 14) (g 15) (g 16) L k) (q_n (g 15 k))) - (g 16 k)))) z) hx hb hK hP hD hS 16 0 rfl rfl (q_n (g 14 k)) rfl ((hE k (by omega)).1.lt (by omega)) (by omega) rfl dX6_dates_171 (fun H locs hP hD hS => ?_)
              obtain ⟨nF171_20, enF171_20⟩ : ∃ y : Nat → Int32, y = upd (psL (g 14) (g 15) (g 16) L k) (q_n (g 14 k)) (((psL (g 14) (g 15) (g 16) L k) (q_n (g 15 k))) - (g 16 k)) := ⟨_, rfl⟩
              have hP : va_P D vwCl (mdW cA ad (gs (gs g 19 (psF (g 14) (g 15) (g 16) F (k + 1))) 20 nF171_20) z) H := by rw [enF171_20]; exact hP
              have hD : va_D A (mdW cA ad (gs (gs g 19 (psF (g 14) (g 15) (g 16) F (k + 1))) 20 nF171_20) z) := by rw [enF171_20]; exact hD
              refine lv_iconst (v := nI 1) hx hb dX6_dates_172 (by decide +kernel) ?_
              refine lv_istore_n (lv' := [(2, .int (nI 1)), (0, .ref (ad 80)), (1, .int (q_b ma)), (3, .int (nI k)), (4, .int (nI (q_n (g 14 k)))), (5, .int (nI (q_n (g 15 k))))]) hx hb dX6_dates_173 rfl hl (by decide) rfl (fun ls hl => ?_)
              rw [enF171_20] at hP hD
              have e9_0 : (nI 1) = (q_b (psC (g 14) (g 15) (g 16) F L k || decide (psF (g 14) (g 15) (g 16) F k (q_n (g 15 k)) < psF (g 14) (g 15) (g 16) F k (q_n (g 14 k)) + g 16 k) || decide (psL (g 14) (g 15) (g 16) L k (q_n (g 15 k)) - g 16 k < psL (g 14) (g 15) (g 16) L k (q_n (g 14 k))))) := by first | with_reducible rfl | (rw [decide_eq_true d_148, Bool.or_true]; rfl)
              have hl9 : lv_has ls 6 [(0, .ref (ad 80)), (1, .int (q_b ma)), (2, .int (q_b (psC (g 14) (g 15) (g 16) F L k || decide (psF (g 14) (g 15) (g 16) F k (q_n (g 15 k)) < psF (g 14) (g 15) (g 16) F k (q_n (g 14 k)) + g 16 k) || decide (psL (g 14) (g 15) (g 16) L k (q_n (g 15 k)) - g 16 k < psL (g 14) (g 15) (g 16) L k (q_n (g 14 k)))))), (3, .int (nI k))] := lv_cast (l := [(0, .ref (ad 80)), (1, .int (q_b ma)), (2, .int (nI 1)), (3, .int (nI k))]) (lv_sub hl [1, 2, 0, 3] rfl) (congrArg (fun v9 : Int32 => ([(0, .ref (ad 80)), (1, .int (q_b ma)), (2, .int v9), (3, .int (nI k))] : List (Nat × Value))) e9_0)
              have ew9 : (mdW cA ad (gs (gs g 19 (psF (g 14) (g 15) (g 16) F (k + 1))) 20 (upd (psL (g 14) (g 15) (g 16) L k) (q_n (g 14 k)) (((psL (g 14) (g 15) (g 16) L k) (q_n (g 15 k))) - (g 16 k)))) z) = (mdW cA ad (gs (gs g 19 (psF (g 14) (g 15) (g 16) F (k + 1))) 20 (psL (g 14) (g 15) (g 16) L (k + 1))) z) := by first | with_reducible rfl | (rw [psL_t d_148])
              have hP : va_P D vwCl (mdW cA ad (gs (gs g 19 (psF (g 14) (g 15) (g 16) F (k + 1))) 20 (psL (g 14) (g 15) (g 16) L (k + 1))) z) H := va_cast' hP ew9
              have hD : va_D A (mdW cA ad (gs (gs g 19 (psF (g 14) (g 15) (g 16) F (k + 1))) 20 (psL (g 14) (g 15) (g 16) L (k + 1))) z) := va_castD hD ew9
              exact zqJ174  (by omega) _ _ _ hP hD hS hl9
          refine lv_iload_n hx hb dX6_dates_56 rfl (lv_at hl 3 rfl) ?_
          refine lv_aload_n hx hb dX6_dates_57 rfl (lv_at hl 0 rfl) ?_
          refine q_get hx hb hT hown hK hP kw_X6 0 rfl rfl 17 (by decide) kf_X6_108 rfl (v := .int (nI (z 1))) rfl dX6_dates_58 ?_
          refine lv_icmp_ge (tgt := 180) hx hb dX6_dates_61 (by decide) (fun c_61 => ?_) (fun c_61 => ?_)
          · have c_61 := nI_le1 (a := z 1) (b := k) (by omega) (by omega) c_61
            refine lv_iconst (v := nI 0) hx hb dX6_dates_180 (by decide +kernel) ?_
            refine lv_istore_n (lv' := [(3, .int (nI 0)), (0, .ref (ad 80)), (1, .int (q_b ma)), (2, .int (q_b (psC (g 14) (g 15) (g 16) F L k)))]) hx hb dX6_dates_181 rfl hl (by decide) rfl (fun ls hl => ?_)
            have e9_0 : (q_b ma) = (q_b (mayN (psF (g 14) (g 15) (g 16) F (z 1)) (psL (g 14) (g 15) (g 16) L (z 1)) (g 12) (g 13) 0)) := by first | with_reducible rfl | (first | (rw [hmg.1]; rfl) | rw [show k = z 1 by omega])
            have e9_1 : (q_b (psC (g 14) (g 15) (g 16) F L k)) = (q_b (psC (g 14) (g 15) (g 16) F L (z 1))) := by first | with_reducible rfl | (first | (rw [hmg.1]; rfl) | rw [show k = z 1 by omega])
            have hl9 : lv_has ls 6 [(0, .ref (ad 80)), (1, .int (q_b (mayN (psF (g 14) (g 15) (g 16) F (z 1)) (psL (g 14) (g 15) (g 16) L (z 1)) (g 12) (g 13) 0))), (2, .int (q_b (psC (g 14) (g 15) (g 16) F L (z 1)))), (3, .int (nI 0))] := lv_cast (l := [(0, .ref (ad 80)), (1, .int (q_b ma)), (2, .int (q_b (psC (g 14) (g 15) (g 16) F L k))), (3, .int (nI 0))]) (lv_sub hl [1, 2, 3, 0] rfl) ((congrArg (fun v9 : Int32 => ([(0, .ref (ad 80)), (1, .int v9), (2, .int (q_b (psC (g 14) (g 15) (g 16) F L k))), (3, .int (nI 0))] : List (Nat × Value))) e9_0).trans (congrArg (fun v9 : Int32 => ([(0, .ref (ad 80)), (1, .int (q_b (mayN (psF (g 14) (g 15) (g 16) F (z 1)) (psL (g 14) (g 15) (g 16) L (z 1)) (g 12) (g 13) 0))), (2, .int v9), (3, .int (nI 0))] : List (Nat × Value))) e9_1))
            have ew9 : (mdW cA ad (gs (gs g 19 (psF (g 14) (g 15) (g 16) F k)) 20 (psL (g 14) (g 15) (g 16) L k)) z) = (mdW cA ad (gs (gs g 19 (psF (g 14) (g 15) (g 16) F (z 1))) 20 (psL (g 14) (g 15) (g 16) L (z 1))) z) := by first | with_reducible rfl | (rw [show k = z 1 by omega])
            have hP : va_P D vwCl (mdW cA ad (gs (gs g 19 (psF (g 14) (g 15) (g 16) F (z 1))) 20 (psL (g 14) (g 15) (g 16) L (z 1))) z) H := va_cast' hP ew9
            have hD : va_D A (mdW cA ad (gs (gs g 19 (psF (g 14) (g 15) (g 16) F (z 1))) 20 (psL (g 14) (g 15) (g 16) L (z 1))) z) := va_castD hD ew9
            exact zqL182 (z 0 + 1) 0 (by omega) (by omega) hmg _ _ _ hP hD hS hl9
          · have c_61 := nI_le0 (a := z 1) (b := k) (by omega) (by omega) c_61
            refine lv_aload_n hx hb dX6_dates_64 rfl (lv_at hl 0 rfl) ?_
            refine q_get hx hb hT hown hK hP kw_X6 0 rfl rfl 18 (by decide) kf_X6_58 rfl (v := .ref (ad 14)) rfl dX6_dates_65 ?_
            refine lv_iload_n hx hb dX6_dates_68 rfl (lv_at hl 3 rfl) ?_
            refine q_iald (f := g 14) hx hb hK hP 17 0 rfl rfl (k) rfl (by omega) (by omega) dX6_dates_69 ?_
            refine q_top (y := nI (q_n (g 14 k))) ((hE k (by omega)).1.eq (by omega)) ?_
            refine lv_istore (lv' := [(4, .int (nI (q_n (g 14 k)))), (0, .ref (ad 80)), (1, .int (q_b ma)), (2, .int (q_b (psC (g 14) (g 15) (g 16) F L k))), (3, .int (nI k))]) hx hb dX6_dates_70 hl (by decide) rfl (fun ls hl => ?_)
            refine lv_aload_n hx hb dX6_dates_72 rfl (lv_at hl 1 rfl) ?_
            refine q_get hx hb hT hown hK hP kw_X6 0 rfl rfl 19 (by decide) kf_X6_61 rfl (v := .ref (ad 15)) rfl dX6_dates_73 ?_
            refine lv_iload_n hx hb dX6_dates_76 rfl (lv_at hl 4 rfl) ?_
            refine q_iald (f := g 15) hx hb hK hP 18 0 rfl rfl (k) rfl (by omega) (by omega) dX6_dates_77 ?_
            refine q_top (y := nI (q_n (g 15 k))) ((hE k (by omega)).2.eq (by omega)) ?_
            refine lv_istore (lv' := [(5, .int (nI (q_n (g 15 k)))), (4, .int (nI (q_n (g 14 k)))), (0, .ref (ad 80)), (1, .int (q_b ma)), (2, .int (q_b (psC (g 14) (g 15) (g 16) F L k))), (3, .int (nI k))]) hx hb dX6_dates_78 hl (by decide) rfl (fun ls hl => ?_)
            refine lv_aload_n hx hb dX6_dates_80 rfl (lv_at hl 2 rfl) ?_
            refine q_get hx hb hT hown hK hP kw_X6 0 rfl rfl 15 (by decide) kf_X6_52 rfl (v := .ref (ad 19)) rfl dX6_dates_81 ?_
            refine lv_iload hx hb dX6_dates_84 (lv_at hl 0 rfl) ?_
            refine q_iald (f := psF (g 14) (g 15) (g 16) F k) hx hb hK hP 15 0 rfl rfl (q_n (g 15 k)) rfl ((hE k (by omega)).2.lt (by omega)) (by omega) dX6_dates_86 ?_
            refine lv_aload_n hx hb dX6_dates_87 rfl (lv_at hl 2 rfl) ?_
            refine q_get hx hb hT hown hK hP kw_X6 0 rfl rfl 15 (by decide) kf_X6_52 rfl (v := .ref (ad 19)) rfl dX6_dates_88 ?_
            refine lv_iload hx hb dX6_dates_91 (lv_at hl 1 rfl) ?_
            refine q_iald (f := psF (g 14) (g 15) (g 16) F k) hx hb hK hP 15 0 rfl rfl (q_n (g 14 k)) rfl ((hE k (by omega)).1.lt (by omega)) (by omega) dX6_dates_93 ?_
            refine lv_aload_n hx hb dX6_dates_94 rfl (lv_at hl 2 rfl) ?_
            refine q_get hx hb hT hown hK hP kw_X6 0 rfl rfl 20 (by decide) kf_X6_64 rfl (v := .ref (ad 16)) rfl dX6_dates_95 ?_
            refine lv_iload_n hx hb dX6_dates_98 rfl (lv_at hl 5 rfl) ?_
            refine q_iald (f := g 16) hx hb hK hP 19 0 rfl rfl (k) rfl (by omega) (by omega) dX6_dates_99 ?_
            refine lv_iadd hx hb dX6_dates_100 ?_
            refine lv_icmp_ge (tgt := 127) hx hb dX6_dates_101 (by decide) (fun c_101 => ?_) (fun c_101 => ?_)
            · have d_101 := q_nlt3 c_101
              have e9_0 : (q_b (psC (g 14) (g 15) (g 16) F L k)) = (q_b (psC (g 14) (g 15) (g 16) F L k || decide (psF (g 14) (g 15) (g 16) F k (q_n (g 15 k)) < psF (g 14) (g 15) (g 16) F k (q_n (g 14 k)) + g 16 k))) := by first | with_reducible rfl | (rw [decide_eq_false d_101, Bool.or_false])
              have hl9 : lv_has ls 6 [(0, .ref (ad 80)), (1, .int (q_b ma)), (2, .int (q_b (psC (g 14) (g 15) (g 16) F L k || decide (psF (g 14) (g 15) (g 16) F k (q_n (g 15 k)) < psF (g 14) (g 15) (g 16) F k (q_n (g 14 k)) + g 16 k)))), (3, .int (nI k)), (4, .int (nI (q_n (g 14 k)))), (5, .int (nI (q_n (g 15 k))))] := lv_cast (l := [(0, .ref (ad 80)), (1, .int (q_b ma)), (2, .int (q_b (psC (g 14) (g 15) (g 16) F L k))), (3, .int (nI k)), (4, .int (nI (q_n (g 14 k)))), (5, .int (nI (q_n (g 15 k))))]) (lv_sub hl [2, 3, 4, 5, 1, 0] rfl) (congrArg (fun v9 : Int32 => ([(0, .ref (ad 80)), (1, .int (q_b ma)), (2, .int v9), (3, .int (nI k)), (4, .int (nI (q_n (g 14 k)))), (5, .int (nI (q_n (g 15 k))))] : List (Nat × Value))) e9_0)
              have ew9 : (mdW cA ad (gs (gs g 19 (psF (g 14) (g 15) (g 16) F k)) 20 (psL (g 14) (g 15) (g 16) L k)) z) = (mdW cA ad (gs (gs g 19 (psF (g 14) (g 15) (g 16) F (k + 1))) 20 (psL (g 14) (g 15) (g 16) L k)) z) := by first | with_reducible rfl | (rw [psF_f d_101])
              have hP : va_P D vwCl (mdW cA ad (gs (gs g 19 (psF (g 14) (g 15) (g 16) F (k + 1))) 20 (psL (g 14) (g 15) (g 16) L k)) z) H := va_cast' hP ew9
              have hD : va_D A (mdW cA ad (gs (gs g 19 (psF (g 14) (g 15) (g 16) F (k + 1))) 20 (psL (g 14) (g 15) (g 16) L k)) z) := va_castD hD ew9
              exact zqJ127  (by omega) _ _ _ hP hD hS hl9
            · have d_101 := q_lt3 c_101
              refine lv_aload_n hx hb dX6_dates_104 rfl (lv_at hl 2 rfl) ?_
              refine q_get hx hb hT hown hK hP kw_X6 0 rfl rfl 15 (by decide) kf_X6_52 rfl (v := .ref (ad 19)) rfl dX6_dates_105 ?_
              refine lv_iload hx hb dX6_dates_108 (lv_at hl 0 rfl) ?_
              refine lv_aload_n hx hb dX6_dates_110 rfl (lv_at hl 2 rfl) ?_
              refine q_get hx hb hT hown hK hP kw_X6 0 rfl rfl 15 (by decide) kf_X6_52 rfl (v := .ref (ad 19)) rfl dX6_dates_111 ?_
              refine lv_iload hx hb dX6_dates_114 (lv_at hl 1 rfl) ?_
              refine q_iald (f := psF (g 14) (g 15) (g 16) F k) hx hb hK hP 15 0 rfl rfl (q_n (g 14 k)) rfl ((hE k (by omega)).1.lt (by omega)) (by omega) dX6_dates_116 ?_
              refine lv_aload_n hx hb dX6_dates_117 rfl (lv_at hl 2 rfl) ?_
              refine q_get hx hb hT hown hK hP kw_X6 0 rfl rfl 20 (by decide) kf_X6_64 rfl (v := .ref (ad 16)) rfl dX6_dates_118 ?_
              refine lv_iload_n hx hb dX6_dates_121 rfl (lv_at hl 5 rfl) ?_
              refine q_iald (f := g 16) hx hb hK hP 19 0 rfl rfl (k) rfl (by omega) (by omega) dX6_dates_122 ?_
              refine lv_iadd hx hb dX6_dates_123 ?_
              refine q_iast (f := psF (g 14) (g 15) (g 16) F k) (ws1 := mdW cA ad (gs (gs g 19 (upd (psF (g 14) (g 15) (g 16) F k) (q_n (g 15 k)) (((psF (g 14) (g 15) (g 16) F k) (q_n (g 14 k))) + (g 16 k)))) 20 (psL (g 14) (g 15) (g 16) L k)) z) hx hb hK hP hD hS 15 0 rfl rfl (q_n (g 15 k)) rfl ((hE k (by omega)).2.lt (by omega)) (by omega) rfl dX6_dates_124 (fun H locs hP hD hS => ?_)
              obtain ⟨nF124_19, enF124_19⟩ : ∃ y : Nat → Int32, y = upd (psF (g 14) (g 15) (g 16) F k) (q_n (g 15 k)) (((psF (g 14) (g 15) (g 16) F k) (q_n (g 14 k))) + (g 16 k)) := ⟨_, rfl⟩
              have hP : va_P D vwCl (mdW cA ad (gs (gs g 19 nF124_19) 20 (psL (g 14) (g 15) (g 16) L k)) z) H := by rw [enF124_19]; exact hP
              have hD : va_D A (mdW cA ad (gs (gs g 19 nF124_19) 20 (psL (g 14) (g 15) (g 16) L k)) z) := by rw [enF124_19]; exact hD
              refine lv_iconst (v := nI 1) hx hb dX6_dates_125 (by decide +kernel) ?_
              refine lv_istore_n (lv' := [(2, .int (nI 1)), (5, .int (nI (q_n (g 15 k)))), (4, .int (nI (q_n (g 14 k)))), (0, .ref (ad 80)), (1, .int (q_b ma)), (3, .int (nI k))]) hx hb dX6_dates_126 rfl hl (by decide) rfl (fun ls hl => ?_)
              rw [enF124_19] at hP hD
              have e9_0 : (nI 1) = (q_b (psC (g 14) (g 15) (g 16) F L k || decide (psF (g 14) (g 15) (g 16) F k (q_n (g 15 k)) < psF (g 14) (g 15) (g 16) F k (q_n (g 14 k)) + g 16 k))) := by first | with_reducible rfl | (rw [decide_eq_true d_101, Bool.or_true]; rfl)
              have hl9 : lv_has ls 6 [(0, .ref (ad 80)), (1, .int (q_b ma)), (2, .int (q_b (psC (g 14) (g 15) (g 16) F L k || decide (psF (g 14) (g 15) (g 16) F k (q_n (g 15 k)) < psF (g 14) (g 15) (g 16) F k (q_n (g 14 k)) + g 16 k)))), (3, .int (nI k)), (4, .int (nI (q_n (g 14 k)))), (5, .int (nI (q_n (g 15 k))))] := lv_cast (l := [(0, .ref (ad 80)), (1, .int (q_b ma)), (2, .int (nI 1)), (3, .int (nI k)), (4, .int (nI (q_n (g 14 k)))), (5, .int (nI (q_n (g 15 k))))]) (lv_sub hl [3, 4, 0, 5, 2, 1] rfl) (congrArg (fun v9 : Int32 => ([(0, .ref (ad 80)), (1, .int (q_b ma)), (2, .int v9), (3, .int (nI k)), (4, .int (nI (q_n (g 14 k)))), (5, .int (nI (q_n (g 15 k))))] : List (Nat × Value))) e9_0)
              have ew9 : (mdW cA ad (gs (gs g 19 (upd (psF (g 14) (g 15) (g 16) F k) (q_n (g 15 k)) (((psF (g 14) (g 15) (g 16) F k) (q_n (g 14 k))) + (g 16 k)))) 20 (psL (g 14) (g 15) (g 16) L k)) z) = (mdW cA ad (gs (gs g 19 (psF (g 14) (g 15) (g 16) F (k + 1))) 20 (psL (g 14) (g 15) (g 16) L k)) z) := by first | with_reducible rfl | (rw [psF_t d_101])
              have hP : va_P D vwCl (mdW cA ad (gs (gs g 19 (psF (g 14) (g 15) (g 16) F (k + 1))) 20 (psL (g 14) (g 15) (g 16) L k)) z) H := va_cast' hP ew9
              have hD : va_D A (mdW cA ad (gs (gs g 19 (psF (g 14) (g 15) (g 16) F (k + 1))) 20 (psL (g 14) (g 15) (g 16) L k)) z) := va_castD hD ew9
              exact zqJ127  (by omega) _ _ _ hP hD hS hl9
      refine lv_iload_n hx hb dX6_dates_44 rfl (lv_at hl 2 rfl) ?_
      refine lv_if_eq (tgt := 252) hx hb dX6_dates_45 (by decide) (fun c_45 => ?_) (fun c_45 => ?_)
      · have c_45 := q_b0e c_45
        refine lv_iload_n hx hb dX6_dates_252 rfl (lv_at hl 1 rfl) ?_
        exact q_zret hx hb hr hlk (q_b_or _) (by exact congrArg q_b (dt_g0 hd2 (by first | exact (fun h => Bool.false_ne_true (c_45.symm.trans h.2)) | exact (fun h => Bool.false_ne_true (c_49.symm.trans h.1)))).1) (va_cast' hP (by rw [← (dt_g0 hd2 (by first | exact (fun h => Bool.false_ne_true (c_45.symm.trans h.2)) | exact (fun h => Bool.false_ne_true (c_49.symm.trans h.1)))).2.1, ← (dt_g0 hd2 (by first | exact (fun h => Bool.false_ne_true (c_45.symm.trans h.2)) | exact (fun h => Bool.false_ne_true (c_49.symm.trans h.1)))).2.2])) hS dX6_dates_253
      · have c_45 := q_b0n c_45
        refine lv_iload_n hx hb dX6_dates_48 rfl (lv_at hl 1 rfl) ?_
        refine lv_if_eq (tgt := 252) hx hb dX6_dates_49 (by decide) (fun c_49 => ?_) (fun c_49 => ?_)
        · have c_49 := q_b0e c_49
          refine lv_iload_n hx hb dX6_dates_252 rfl (lv_at hl 1 rfl) ?_
          exact q_zret hx hb hr hlk (q_b_or _) (by exact congrArg q_b (dt_g0 hd2 (by first | exact (fun h => Bool.false_ne_true (c_45.symm.trans h.2)) | exact (fun h => Bool.false_ne_true (c_49.symm.trans h.1)))).1) (va_cast' hP (by rw [← (dt_g0 hd2 (by first | exact (fun h => Bool.false_ne_true (c_45.symm.trans h.2)) | exact (fun h => Bool.false_ne_true (c_49.symm.trans h.1)))).2.1, ← (dt_g0 hd2 (by first | exact (fun h => Bool.false_ne_true (c_45.symm.trans h.2)) | exact (fun h => Bool.false_ne_true (c_49.symm.trans h.1)))).2.2])) hS dX6_dates_253
        · have c_49 := q_b0n c_49
          refine lv_iconst (v := nI 0) hx hb dX6_dates_52 (by decide +kernel) ?_
          refine lv_istore_n (lv' := [(2, .int (nI 0)), (0, .ref (ad 80)), (1, .int (q_b ma))]) hx hb dX6_dates_53 rfl hl (by decide) rfl (fun ls hl => ?_)
          refine lv_iconst (v := nI 0) hx hb dX6_dates_54 (by decide +kernel) ?_
          refine lv_istore_n (lv' := [(3, .int (nI 0)), (2, .int (nI 0)), (0, .ref (ad 80)), (1, .int (q_b ma))]) hx hb dX6_dates_55 rfl hl (by decide) rfl (fun ls hl => ?_)
          have e9_0 : (nI 0) = (q_b (psC (g 14) (g 15) (g 16) F L 0)) := by first | with_reducible rfl | (rfl)
          have hl9 : lv_has ls 6 [(0, .ref (ad 80)), (1, .int (q_b ma)), (2, .int (q_b (psC (g 14) (g 15) (g 16) F L 0))), (3, .int (nI 0))] := lv_cast (l := [(0, .ref (ad 80)), (1, .int (q_b ma)), (2, .int (nI 0)), (3, .int (nI 0))]) (lv_sub hl [2, 3, 1, 0] rfl) (congrArg (fun v9 : Int32 => ([(0, .ref (ad 80)), (1, .int (q_b ma)), (2, .int v9), (3, .int (nI 0))] : List (Nat × Value))) e9_0)
          have ew9 : (mdW cA ad (gs (gs g 19 F) 20 L) z) = (mdW cA ad (gs (gs g 19 (psF (g 14) (g 15) (g 16) F 0)) 20 (psL (g 14) (g 15) (g 16) L 0)) z) := by first | with_reducible rfl | (rfl)
          have hP : va_P D vwCl (mdW cA ad (gs (gs g 19 (psF (g 14) (g 15) (g 16) F 0)) 20 (psL (g 14) (g 15) (g 16) L 0)) z) H := va_cast' hP ew9
          have hD : va_D A (mdW cA ad (gs (gs g 19 (psF (g 14) (g 15) (g 16) F 0)) 20 (psL (g 14) (g 15) (g 16) L 0)) z) := va_castD hD ew9
          exact zqL56 (z 1 + 1) 0 (by omega) (by omega) ⟨c_49, c_45⟩ _ _ _ hP hD hS hl9
  have zqL2 : ∀ (fu : Nat), ∀ (k : Nat), (z 0 + 1 ≤ k + fu) → (k ≤ (z 0)) → ∀ (H : Heap) (locs : List Loc) (ls : Array Slot), va_P D vwCl (mdW cA ad (gs (gs g 19 (copyTo (g 19) (g 12) k)) 20 (copyTo (g 20) (g 13) k)) z) H → va_D A (mdW cA ad (gs (gs g 19 (copyTo (g 19) (g 12) k)) 20 (copyTo (g 20) (g 13) k)) z) → va_S A s.heap H locs → lv_has ls 6 [(0, .ref (ad 80)), (1, .int (nI k))] → W p l e rm_X6_dates s m args below meth c H locs 0 0 (q_GI D (q_b ((dtD u0 (g 14) (g 15) (g 16) (g 12) (g 13) (g 19) (g 20) (z 1) (z 0)).2.2.1)) (mdW cA ad (gs (gs g 19 ((dtD u0 (g 14) (g 15) (g 16) (g 12) (g 13) (g 19) (g 20) (z 1) (z 0)).1)) 20 ((dtD u0 (g 14) (g 15) (g 16) (g 12) (g 13) (g 19) (g 20) (z 1) (z 0)).2.1)) z) A below args s) (F0 m 2 ls []) := by
    intro fu
    induction fu with
    | zero =>
      intro k hfu hk H locs ls hP hD hS hl
      exfalso; omega
    | succ fu ih2 =>
      intro k hfu hk H locs ls hP hD hS hl
      refine lv_iload_n hx hb dX6_dates_2 rfl (lv_at hl 1 rfl) ?_
      refine lv_aload_n hx hb dX6_dates_3 rfl (lv_at hl 0 rfl) ?_
      refine q_get hx hb hT hown hK hP kw_X6 0 rfl rfl 0 (by decide) kf_X6_86 rfl (v := .int (nI (z 0))) rfl dX6_dates_4 ?_
      refine lv_icmp_ge (tgt := 40) hx hb dX6_dates_7 (by decide) (fun c_7 => ?_) (fun c_7 => ?_)
      · have c_7 := nI_le1 (a := z 0) (b := k) (by omega) (by omega) c_7
        refine lv_iconst (v := nI 1) hx hb dX6_dates_40 (by decide +kernel) ?_
        refine lv_istore_n (lv' := [(1, .int (nI 1)), (0, .ref (ad 80))]) hx hb dX6_dates_41 rfl hl (by decide) rfl (fun ls hl => ?_)
        refine lv_iconst (v := nI 1) hx hb dX6_dates_42 (by decide +kernel) ?_
        refine lv_istore_n (lv' := [(2, .int (nI 1)), (1, .int (nI 1)), (0, .ref (ad 80))]) hx hb dX6_dates_43 rfl hl (by decide) rfl (fun ls hl => ?_)
        have e9_0 : (nI 1) = (q_b true) := by first | with_reducible rfl | (rfl)
        have e9_1 : (nI 1) = (q_b true) := by first | with_reducible rfl | (rfl)
        have hl9 : lv_has ls 6 [(0, .ref (ad 80)), (1, .int (q_b true)), (2, .int (q_b true))] := lv_cast (l := [(0, .ref (ad 80)), (1, .int (nI 1)), (2, .int (nI 1))]) (lv_sub hl [2, 1, 0] rfl) ((congrArg (fun v9 : Int32 => ([(0, .ref (ad 80)), (1, .int v9), (2, .int (nI 1))] : List (Nat × Value))) e9_0).trans (congrArg (fun v9 : Int32 => ([(0, .ref (ad 80)), (1, .int (q_b true)), (2, .int v9)] : List (Nat × Value))) e9_1))
        have ew9 : (mdW cA ad (gs (gs g 19 (copyTo (g 19) (g 12) k)) 20 (copyTo (g 20) (g 13) k)) z) = (mdW cA ad (gs (gs g 19 (copyTo (g 19) (g 12) (z 0))) 20 (copyTo (g 20) (g 13) (z 0))) z) := by first | with_reducible rfl | (rw [show k = z 0 by omega])
        have hP : va_P D vwCl (mdW cA ad (gs (gs g 19 (copyTo (g 19) (g 12) (z 0))) 20 (copyTo (g 20) (g 13) (z 0))) z) H := va_cast' hP ew9
        have hD : va_D A (mdW cA ad (gs (gs g 19 (copyTo (g 19) (g 12) (z 0))) 20 (copyTo (g 20) (g 13) (z 0))) z) := va_castD hD ew9
        exact zqL44 (u0 + 1) (copyTo (g 19) (g 12) (z 0)) (copyTo (g 20) (g 13) (z 0)) true true ⟨u0, rfl, hst, rfl⟩  _ _ _ hP hD hS hl9
      · have c_7 := nI_le0 (a := z 0) (b := k) (by omega) (by omega) c_7
        refine lv_aload_n hx hb dX6_dates_10 rfl (lv_at hl 0 rfl) ?_
        refine q_get hx hb hT hown hK hP kw_X6 0 rfl rfl 15 (by decide) kf_X6_52 rfl (v := .ref (ad 19)) rfl dX6_dates_11 ?_
        refine lv_iload_n hx hb dX6_dates_14 rfl (lv_at hl 1 rfl) ?_
        refine lv_aload_n hx hb dX6_dates_15 rfl (lv_at hl 0 rfl) ?_
        refine q_get hx hb hT hown hK hP kw_X6 0 rfl rfl 11 (by decide) kf_X6_40 rfl (v := .ref (ad 12)) rfl dX6_dates_16 ?_
        refine lv_iload_n hx hb dX6_dates_19 rfl (lv_at hl 1 rfl) ?_
        refine q_iald (f := g 12) hx hb hK hP 11 0 rfl rfl (k) rfl (by omega) (by omega) dX6_dates_20 ?_
        refine q_iast (f := copyTo (g 19) (g 12) k) (ws1 := mdW cA ad (gs (gs g 19 (upd (copyTo (g 19) (g 12) k) k (g 12 k))) 20 (copyTo (g 20) (g 13) k)) z) hx hb hK hP hD hS 15 0 rfl rfl (k) rfl (by omega) (by omega) rfl dX6_dates_21 (fun H locs hP hD hS => ?_)
        obtain ⟨nF21_19, enF21_19⟩ : ∃ y : Nat → Int32, y = upd (copyTo (g 19) (g 12) k) k (g 12 k) := ⟨_, rfl⟩
        have hP : va_P D vwCl (mdW cA ad (gs (gs g 19 nF21_19) 20 (copyTo (g 20) (g 13) k)) z) H := by rw [enF21_19]; exact hP
        have hD : va_D A (mdW cA ad (gs (gs g 19 nF21_19) 20 (copyTo (g 20) (g 13) k)) z) := by rw [enF21_19]; exact hD
        refine lv_aload_n hx hb dX6_dates_22 rfl (lv_at hl 0 rfl) ?_
        refine q_get hx hb hT hown hK hP kw_X6 0 rfl rfl 16 (by decide) kf_X6_55 rfl (v := .ref (ad 20)) rfl dX6_dates_23 ?_
        refine lv_iload_n hx hb dX6_dates_26 rfl (lv_at hl 1 rfl) ?_
        refine lv_aload_n hx hb dX6_dates_27 rfl (lv_at hl 0 rfl) ?_
        refine q_get hx hb hT hown hK hP kw_X6 0 rfl rfl 12 (by decide) kf_X6_43 rfl (v := .ref (ad 13)) rfl dX6_dates_28 ?_
        refine lv_iload_n hx hb dX6_dates_31 rfl (lv_at hl 1 rfl) ?_
        refine q_iald (f := g 13) hx hb hK hP 12 0 rfl rfl (k) rfl (by omega) (by omega) dX6_dates_32 ?_
        refine q_iast (f := copyTo (g 20) (g 13) k) (ws1 := mdW cA ad (gs (gs g 19 nF21_19) 20 (upd (copyTo (g 20) (g 13) k) k (g 13 k))) z) hx hb hK hP hD hS 16 0 rfl rfl (k) rfl (by omega) (by omega) rfl dX6_dates_33 (fun H locs hP hD hS => ?_)
        obtain ⟨nF33_20, enF33_20⟩ : ∃ y : Nat → Int32, y = upd (copyTo (g 20) (g 13) k) k (g 13 k) := ⟨_, rfl⟩
        have hP : va_P D vwCl (mdW cA ad (gs (gs g 19 nF21_19) 20 nF33_20) z) H := by rw [enF33_20]; exact hP
        have hD : va_D A (mdW cA ad (gs (gs g 19 nF21_19) 20 nF33_20) z) := by rw [enF33_20]; exact hD
        refine lv_iinc (v := nI (k + 1)) (lv' := [(1, .int (nI (k + 1))), (0, .ref (ad 80))]) hx hb dX6_dates_34 hl (k := 1) rfl (q_inc1 _) (by decide) rfl (fun ls hl => ?_)
        refine lv_goto (tgt := 2) hx hb dX6_dates_37 (by decide) ?_
        rw [enF33_20] at hP hD
        rw [enF21_19] at hP hD
        have ew9 : (mdW cA ad (gs (gs g 19 (upd (copyTo (g 19) (g 12) k) k (g 12 k))) 20 (upd (copyTo (g 20) (g 13) k) k (g 13 k))) z) = (mdW cA ad (gs (gs g 19 (copyTo (g 19) (g 12) (k + 1))) 20 (copyTo (g 20) (g 13) (k + 1))) z) := by first | with_reducible rfl | (rw [copyTo_s, copyTo_s])
        have hP : va_P D vwCl (mdW cA ad (gs (gs g 19 (copyTo (g 19) (g 12) (k + 1))) 20 (copyTo (g 20) (g 13) (k + 1))) z) H := va_cast' hP ew9
        have hD : va_D A (mdW cA ad (gs (gs g 19 (copyTo (g 19) (g 12) (k + 1))) 20 (copyTo (g 20) (g 13) (k + 1))) z) := va_castD hD ew9
        exact ih2 (k + 1) (by omega) (by omega) _ _ _ hP hD hS (lv_sub hl [1, 0] rfl)
  refine lv_iconst (v := nI 0) hx hb dX6_dates_0 (by decide +kernel) ?_
  refine lv_istore_n (lv' := [(1, .int (nI 0)), (0, .ref (ad 80))]) hx hb dX6_dates_1 rfl hl (by decide) rfl (fun ls hl => ?_)
  have ew9 : (mdW cA ad g z) = (mdW cA ad (gs (gs g 19 (copyTo (g 19) (g 12) 0)) 20 (copyTo (g 20) (g 13) 0)) z) := by first | with_reducible rfl | (rw [copyTo_0, copyTo_0]; rfl)
  have hP : va_P D vwCl (mdW cA ad (gs (gs g 19 (copyTo (g 19) (g 12) 0)) 20 (copyTo (g 20) (g 13) 0)) z) H := va_cast' hP ew9
  have hD : va_D A (mdW cA ad (gs (gs g 19 (copyTo (g 19) (g 12) 0)) 20 (copyTo (g 20) (g 13) 0)) z) := va_castD hD ew9
  exact zqL2 (z 0 + 1) 0 (by omega) (by omega) _ _ _ hP hD hS (lv_sub hl [1, 0] rfl)
