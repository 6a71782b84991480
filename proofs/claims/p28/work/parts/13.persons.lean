/-- v is put for w in the first k places -/
def repl (f : Nat → Int32) (v w : Int32) (k : Nat) : Nat → Int32 := fun j => if j < k ∧ f j = v then w else f j
theorem repl_0 {f : Nat → Int32} {v w : Int32} : repl f v w 0 = f := by funext j; simp [repl]
theorem repl_k {f : Nat → Int32} {v w : Int32} {k : Nat} : repl f v w k k = f k := by simp [repl]
theorem repl_t {f : Nat → Int32} {v w : Int32} {k : Nat} (h : f k = v) : upd (repl f v w k) k w = repl f v w (k + 1) := by
  funext j
  simp only [upd, repl]
  by_cases hj : j = k
  · subst hj; simp [h]
  · simp only [hj, if_false]
    have : (j < k + 1 ∧ f j = v) ↔ (j < k ∧ f j = v) := ⟨fun z => ⟨by omega, z.2⟩, fun z => ⟨by omega, z.2⟩⟩
    simp only [this]
theorem repl_f {f : Nat → Int32} {v w : Int32} {k : Nat} (h : ¬ f k = v) : repl f v w k = repl f v w (k + 1) := by
  funext j
  simp only [repl]
  have : (j < k + 1 ∧ f j = v) ↔ (j < k ∧ f j = v) := ⟨fun z => ⟨by
    rcases Nat.lt_or_ge j k with q | q
    · exact q
    · have : j = k := by omega
      subst this
      exact absurd z.2 h, z.2⟩, fun z => ⟨by omega, z.2⟩⟩
  simp only [this]
theorem q_minN {a b : Nat} (ha : a < 2147483648) (hb : b < 2147483648) : (if nI b < nI a then nI b else nI a) = nI (min a b) := by
  by_cases h : b < a
  · rw [if_pos (nI_lt h ha), Nat.min_eq_right (by omega)]
  · rw [if_neg (nI_nlt (by omega) hb), Nat.min_eq_left (by omega)]
theorem q_maxN {a b : Nat} (ha : a < 2147483648) (hb : b < 2147483648) : (if nI a < nI b then nI b else nI a) = nI (max a b) := by
  by_cases h : a < b
  · rw [if_pos (nI_lt h hb), Nat.max_eq_right (by omega)]
  · rw [if_neg (nI_nlt (by omega) ha), Nat.max_eq_left (by omega)]
abbrev rm_X2_made : Room := { frames := 0, cells := 0, slots := 0, locals := 0 }
set_option maxRecDepth 100000 in
set_option maxHeartbeats 4000000 in
theorem c_X2_made (l : Launch) (D : va_G) (cA : ClassId) (ad : Nat → Nat) (g : Nat → Nat → Int32) (z : Nat → Nat)   : q_CI l yX2_made [Cond.code yX2_made cX2_made 1 (some .int)] rm_X2_made D cA [.ref (ad 72)] (psW cA ad g z) (nI (z 2)) (psW cA ad g z) := by
  refine q_startI RX2 (by decide +kernel) rfl (Nat.le_of_ble_eq_true rfl) ?_
  intro p e s m below meth c A args H locs ls hx hb hr hml hown hT hlk hP hK hD hA hS hl
  have hl : lv_has ls 1 [(0, .ref (ad 72))] := hl
  refine lv_aload_n hx hb dX2_made_0 rfl (lv_at hl 0 rfl) ?_
  refine q_get hx hb hT hown hK hP kw_X2 0 rfl rfl 2 (by decide) kf_X2_23 rfl (v := .int (nI (z 2))) rfl dX2_made_1 ?_
  exact q_iret hx hb hr hlk (by rfl) hP hS dX2_made_4
abbrev rm_X2_ownerOf : Room := { frames := 1, cells := 0, slots := 0, locals := 21 }
set_option maxRecDepth 100000 in
set_option maxHeartbeats 4000000 in
theorem c_X2_ownerOf (l : Launch) (D : va_G) (cA : ClassId) (ad : Nat → Nat) (g : Nat → Nat → Int32) (z : Nat → Nat) (k : Nat) (hk : k < 16) : q_CI l yX2_ownerOf [Cond.code yX2_ownerOf cX2_ownerOf 2 (some .int)] rm_X2_ownerOf D cA [.ref (ad 72), .int (nI k)] (psW cA ad g z) ((g 22) k) (psW cA ad g z) := by
  refine q_startI RX2 (by decide +kernel) rfl (Nat.le_of_ble_eq_true rfl) ?_
  intro p e s m below meth c A args H locs ls hx hb hr hml hown hT hlk hP hK hD hA hS hl
  have hl : lv_has ls 2 [(0, .ref (ad 72)), (1, .int (nI k))] := hl
  refine lv_aload_n hx hb dX2_ownerOf_0 rfl (lv_at hl 0 rfl) ?_
  refine q_get hx hb hT hown hK hP kw_X2 0 rfl rfl 0 (by decide) kf_X2_14 rfl (v := .ref (ad 22)) rfl dX2_ownerOf_1 ?_
  refine lv_iload_n hx hb dX2_ownerOf_4 rfl (lv_at hl 1 rfl) ?_
  refine q_callI (As := [.int (nI k)]) (r := g 22 k) (wc := rowW cA (ad 22) (ad 52) 16 (g 22)) (w1 := rowW cA (ad 22) (ad 52) 16 (g 22)) (ws1 := psW cA ad g z) hx hb hml hown hT hK hP hD hS hA (c_X3_atN l D cA (ad 22) (ad 52) 16 (g 22) k (by omega) (by omega)) k_X3_at kl_X2_27 (q0 := 0) rfl rfl rfl [1, 2] rfl rfl rfl rfl hl rfl rfl (Nat.le_of_ble_eq_true rfl) ⟨⟨rfl, rfl⟩, Nat.le_of_ble_eq_true rfl, Nat.le_of_ble_eq_true rfl⟩ ⟨Nat.zero_le _, Nat.zero_le _⟩ dX2_ownerOf_5 (fun H locs hP hD hS => ?_)
  exact q_iret hx hb hr hlk (by rfl) hP hS dX2_ownerOf_8
abbrev rm_X2_leadOf : Room := { frames := 1, cells := 0, slots := 0, locals := 21 }
set_option maxRecDepth 100000 in
set_option maxHeartbeats 4000000 in
theorem c_X2_leadOf (l : Launch) (D : va_G) (cA : ClassId) (ad : Nat → Nat) (g : Nat → Nat → Int32) (z : Nat → Nat) (k : Nat) (hk : k < 40) : q_CI l yX2_leadOf [Cond.code yX2_leadOf cX2_leadOf 2 (some .int)] rm_X2_leadOf D cA [.ref (ad 72), .int (nI k)] (psW cA ad g z) ((g 23) k) (psW cA ad g z) := by
  refine q_startI RX2 (by decide +kernel) rfl (Nat.le_of_ble_eq_true rfl) ?_
  intro p e s m below meth c A args H locs ls hx hb hr hml hown hT hlk hP hK hD hA hS hl
  have hl : lv_has ls 2 [(0, .ref (ad 72)), (1, .int (nI k))] := hl
  refine lv_aload_n hx hb dX2_leadOf_0 rfl (lv_at hl 0 rfl) ?_
  refine q_get hx hb hT hown hK hP kw_X2 0 rfl rfl 1 (by decide) kf_X2_20 rfl (v := .ref (ad 23)) rfl dX2_leadOf_1 ?_
  refine lv_iload_n hx hb dX2_leadOf_4 rfl (lv_at hl 1 rfl) ?_
  refine q_callI (As := [.int (nI k)]) (r := g 23 k) (wc := rowW cA (ad 23) (ad 53) 40 (g 23)) (w1 := rowW cA (ad 23) (ad 53) 40 (g 23)) (ws1 := psW cA ad g z) hx hb hml hown hT hK hP hD hS hA (c_X3_atN l D cA (ad 23) (ad 53) 40 (g 23) k (by omega) (by omega)) k_X3_at kl_X2_27 (q0 := 0) rfl rfl rfl [3, 4] rfl rfl rfl rfl hl rfl rfl (Nat.le_of_ble_eq_true rfl) ⟨⟨rfl, rfl⟩, Nat.le_of_ble_eq_true rfl, Nat.le_of_ble_eq_true rfl⟩ ⟨Nat.zero_le _, Nat.zero_le _⟩ dX2_leadOf_5 (fun H locs hP hD hS => ?_)
  exact q_iret hx hb hr hlk (by rfl) hP hS dX2_leadOf_8
abbrev rm_X2_moveToNew : Room := { frames := 1, cells := 0, slots := 0, locals := 22 }
set_option maxRecDepth 100000 in
set_option maxHeartbeats 4000000 in
theorem c_X2_moveToNew (l : Launch) (D : va_G) (cA : ClassId) (ad : Nat → Nat) (g : Nat → Nat → Int32) (z : Nat → Nat) (k : Nat) (hk : k < 16) (hz : (z 2) < 40) : q_CI l yX2_moveToNew [Cond.code yX2_moveToNew cX2_moveToNew 3 (some .int)] rm_X2_moveToNew D cA [.ref (ad 72), .int (nI k)] (psW cA ad g z) (nI (z 2)) (psW cA ad (gs (gs g 22 (upd (g 22) k (nI (z 2)))) 23 (upd (g 23) (z 2) (nI (z 2)))) (zs z 2 ((z 2) + 1))) := by
  refine q_startI RX2 (by decide +kernel) rfl (Nat.le_of_ble_eq_true rfl) ?_
  intro p e s m below meth c A args H locs ls hx hb hr hml hown hT hlk hP hK hD hA hS hl
  have hl : lv_has ls 3 [(0, .ref (ad 72)), (1, .int (nI k))] := hl
  refine lv_aload_n hx hb dX2_moveToNew_0 rfl (lv_at hl 0 rfl) ?_
  refine q_get hx hb hT hown hK hP kw_X2 0 rfl rfl 2 (by decide) kf_X2_23 rfl (v := .int (nI (z 2))) rfl dX2_moveToNew_1 ?_
  refine lv_istore_n (lv' := [(2, .int (nI (z 2))), (0, .ref (ad 72)), (1, .int (nI k))]) hx hb dX2_moveToNew_4 rfl hl (by decide) rfl (fun ls hl => ?_)
  refine lv_aload_n hx hb dX2_moveToNew_5 rfl (lv_at hl 1 rfl) ?_
  refine q_get hx hb hT hown hK hP kw_X2 0 rfl rfl 1 (by decide) kf_X2_20 rfl (v := .ref (ad 23)) rfl dX2_moveToNew_6 ?_
  refine lv_iload_n hx hb dX2_moveToNew_9 rfl (lv_at hl 0 rfl) ?_
  refine lv_iload_n hx hb dX2_moveToNew_10 rfl (lv_at hl 0 rfl) ?_
  refine q_callV (As := [.int (nI (z 2)), .int (nI (z 2))]) (wc := rowW cA (ad 23) (ad 53) 40 (g 23)) (w1 := rowW cA (ad 23) (ad 53) 40 (upd (g 23) (z 2) (nI (z 2)))) (ws1 := psW cA ad (gs g 23 (upd (g 23) (z 2) (nI (z 2)))) z) hx hb hml hown hT hK hP hD hS hA (c_X3_putN l D cA (ad 23) (ad 53) 40 (g 23) (z 2) (nI (z 2)) (by omega) (by omega)) k_X3_put kl_X2_31 (q0 := 0) rfl rfl rfl [3, 4] rfl rfl rfl rfl hl rfl rfl (Nat.le_of_ble_eq_true rfl) ⟨⟨rfl, rfl⟩, Nat.le_of_ble_eq_true rfl, Nat.le_of_ble_eq_true rfl⟩ ⟨Nat.zero_le _, Nat.zero_le _⟩ dX2_moveToNew_11 (fun H locs hP hD hS => ?_)
  obtain ⟨nF11_23, enF11_23⟩ : ∃ y : Nat → Int32, y = upd (g 23) (z 2) (nI (z 2)) := ⟨_, rfl⟩
  have hP : va_P D vwCl (psW cA ad (gs g 23 nF11_23) z) H := by rw [enF11_23]; exact hP
  have hD : va_D A (psW cA ad (gs g 23 nF11_23) z) := by rw [enF11_23]; exact hD
  refine lv_aload_n hx hb dX2_moveToNew_14 rfl (lv_at hl 1 rfl) ?_
  refine q_get hx hb hT hown hK hP kw_X2 0 rfl rfl 0 (by decide) kf_X2_14 rfl (v := .ref (ad 22)) rfl dX2_moveToNew_15 ?_
  refine lv_iload_n hx hb dX2_moveToNew_18 rfl (lv_at hl 2 rfl) ?_
  refine lv_iload_n hx hb dX2_moveToNew_19 rfl (lv_at hl 0 rfl) ?_
  refine q_callV (As := [.int (nI k), .int (nI (z 2))]) (wc := rowW cA (ad 22) (ad 52) 16 (g 22)) (w1 := rowW cA (ad 22) (ad 52) 16 (upd (g 22) k (nI (z 2)))) (ws1 := psW cA ad (gs (gs g 22 (upd (g 22) k (nI (z 2)))) 23 nF11_23) z) hx hb hml hown hT hK hP hD hS hA (c_X3_putN l D cA (ad 22) (ad 52) 16 (g 22) k (nI (z 2)) (by omega) (by omega)) k_X3_put kl_X2_31 (q0 := 0) rfl rfl rfl [1, 2] rfl rfl rfl rfl hl rfl rfl (Nat.le_of_ble_eq_true rfl) ⟨⟨rfl, rfl⟩, Nat.le_of_ble_eq_true rfl, Nat.le_of_ble_eq_true rfl⟩ ⟨Nat.zero_le _, Nat.zero_le _⟩ dX2_moveToNew_20 (fun H locs hP hD hS => ?_)
  obtain ⟨nF20_22, enF20_22⟩ : ∃ y : Nat → Int32, y = upd (g 22) k (nI (z 2)) := ⟨_, rfl⟩
  have hP : va_P D vwCl (psW cA ad (gs (gs g 22 nF20_22) 23 nF11_23) z) H := by rw [enF20_22]; exact hP
  have hD : va_D A (psW cA ad (gs (gs g 22 nF20_22) 23 nF11_23) z) := by rw [enF20_22]; exact hD
  refine lv_aload_n hx hb dX2_moveToNew_23 rfl (lv_at hl 1 rfl) ?_
  refine lv_dup hx hb dX2_moveToNew_24 rfl ?_
  refine q_get hx hb hT hown hK hP kw_X2 0 rfl rfl 2 (by decide) kf_X2_23 rfl (v := .int (nI (z 2))) rfl dX2_moveToNew_25 ?_
  refine lv_iconst (v := nI 1) hx hb dX2_moveToNew_28 (by decide +kernel) ?_
  refine lv_iadd hx hb dX2_moveToNew_29 ?_
  refine q_top (y := nI (z 2 + 1)) (nI_add _ _) ?_
  refine q_put (ty := .int) (ws1 := psW cA ad (gs (gs g 22 nF20_22) 23 nF11_23) (zs z 2 (z 2 + 1))) hx hb hT hown hK hP hD hS kw_X2 tyX2_ok nmX2 0 rfl rfl 2 (by decide) kf_X2_23 rfl rfl (by decide +kernel) rfl rfl (Nat.le_of_ble_eq_true rfl) rfl dX2_moveToNew_30 (fun H locs hP hD hS => ?_)
  refine lv_iload_n hx hb dX2_moveToNew_33 rfl (lv_at hl 0 rfl) ?_
  rw [enF20_22] at hP hD
  rw [enF11_23] at hP hD
  exact q_iret hx hb hr hlk (by rfl) (va_cast' hP (by rfl)) hS dX2_moveToNew_34
abbrev rm_X2_unite : Room := { frames := 1, cells := 0, slots := 0, locals := 22 }
set_option maxRecDepth 100000 in
set_option maxHeartbeats 4000000 in
theorem c_X2_unite (l : Launch) (D : va_G) (cA : ClassId) (ad : Nat → Nat) (g : Nat → Nat → Int32) (z : Nat → Nat) (a : Nat) (b : Nat) (ha : a < 40) (hb : b < 40) (hz : (z 2) ≤ 40) : q_CI l yX2_unite [Cond.code yX2_unite cX2_unite 6 (some .int)] rm_X2_unite D cA [.ref (ad 72), .int (nI a), .int (nI b)] (psW cA ad g z) (nI (min a b)) (psW cA ad (gs (gs g 22 (repl (g 22) (nI (max a b)) (nI (min a b)) 16)) 23 (repl (g 23) (nI (max a b)) (nI (min a b)) (z 2))) z) := by
  refine q_startI RX2 (by decide +kernel) rfl (Nat.le_of_ble_eq_true rfl) ?_
  intro p e s m below meth c A args H locs ls hx hb hr hml hown hT hlk hP hK hD hA hS hl
  have hl : lv_has ls 6 [(0, .ref (ad 72)), (1, .int (nI a)), (2, .int (nI b))] := hl
  have zqL16 : ∀ (fu : Nat), ∀ (k : Nat), (z 2 + 1 ≤ k + fu) → (k ≤ (z 2)) → ∀ (H : Heap) (locs : List Loc) (ls : Array Slot), va_P D vwCl (psW cA ad (gs g 23 (repl (g 23) (nI (max a b)) (nI (min a b)) k)) z) H → va_D A (psW cA ad (gs g 23 (repl (g 23) (nI (max a b)) (nI (min a b)) k)) z) → va_S A s.heap H locs → lv_has ls 6 [(0, .ref (ad 72)), (1, .int (nI a)), (2, .int (nI b)), (3, .int (nI (min a b))), (4, .int (nI (max a b))), (5, .int (nI k))] → W p l e rm_X2_unite s m args below meth c H locs 0 0 (q_GI D (nI (min a b)) (psW cA ad (gs (gs g 22 (repl (g 22) (nI (max a b)) (nI (min a b)) 16)) 23 (repl (g 23) (nI (max a b)) (nI (min a b)) (z 2))) z) A below args s) (F0 m 16 ls []) := by
    intro fu
    induction fu with
    | zero =>
      intro k hfu hk H locs ls hP hD hS hl
      exfalso; omega
    | succ fu ih16 =>
      intro k hfu hk H locs ls hP hD hS hl
      have zqL58 : ∀ (fu : Nat), ∀ (k2 : Nat), (16 + 1 ≤ k2 + fu) → (k2 ≤ 16) → ((z 2) ≤ k) → ∀ (H : Heap) (locs : List Loc) (ls : Array Slot), va_P D vwCl (psW cA ad (gs (gs g 22 (repl (g 22) (nI (max a b)) (nI (min a b)) k2)) 23 (repl (g 23) (nI (max a b)) (nI (min a b)) k)) z) H → va_D A (psW cA ad (gs (gs g 22 (repl (g 22) (nI (max a b)) (nI (min a b)) k2)) 23 (repl (g 23) (nI (max a b)) (nI (min a b)) k)) z) → va_S A s.heap H locs → lv_has ls 6 [(0, .ref (ad 72)), (1, .int (nI a)), (2, .int (nI b)), (3, .int (nI (min a b))), (4, .int (nI (max a b))), (5, .int (nI k2))] → W p l e rm_X2_unite s m args below meth c H locs 0 0 (q_GI D (nI (min a b)) (psW cA ad (gs (gs g 22 (repl (g 22) (nI (max a b)) (nI (min a b)) 16)) 23 (repl (g 23) (nI (max a b)) (nI (min a b)) (z 2))) z) A below args s) (F0 m 58 ls []) := by
        intro fu
        induction fu with
        | zero =>
          intro k2 hfu hk2 hkk H locs ls hP hD hS hl
          exfalso; omega
        | succ fu ih58 =>
          intro k2 hfu hk2 hkk H locs ls hP hD hS hl
          refine lv_iload hx hb dX2_unite_58 (lv_at hl 5 rfl) ?_
          refine lv_bipush (v := nI 16) hx hb dX2_unite_60 (by decide +kernel) ?_
          refine lv_icmp_ge (tgt := 95) hx hb dX2_unite_62 (by decide) (fun c_62 => ?_) (fun c_62 => ?_)
          · have c_62 := nI_le1 (a := 16) (b := k2) (by omega) (by omega) c_62
            refine lv_iload_n hx hb dX2_unite_95 rfl (lv_at hl 3 rfl) ?_
            exact q_iret hx hb hr hlk (by rfl) (va_cast' hP (by rw [show k2 = 16 by omega, show k = z 2 by omega])) hS dX2_unite_96
          · have c_62 := nI_le0 (a := 16) (b := k2) (by omega) (by omega) c_62
            refine lv_aload_n hx hb dX2_unite_65 rfl (lv_at hl 0 rfl) ?_
            refine q_get hx hb hT hown hK hP kw_X2 0 rfl rfl 0 (by decide) kf_X2_14 rfl (v := .ref (ad 22)) rfl dX2_unite_66 ?_
            refine lv_iload hx hb dX2_unite_69 (lv_at hl 5 rfl) ?_
            refine q_callI (As := [.int (nI k2)]) (r := (repl (g 22) (nI (max a b)) (nI (min a b)) k2) k2) (wc := rowW cA (ad 22) (ad 52) 16 (repl (g 22) (nI (max a b)) (nI (min a b)) k2)) (w1 := rowW cA (ad 22) (ad 52) 16 (repl (g 22) (nI (max a b)) (nI (min a b)) k2)) (ws1 := psW cA ad (gs (gs g 22 (repl (g 22) (nI (max a b)) (nI (min a b)) k2)) 23 (repl (g 23) (nI (max a b)) (nI (min a b)) k)) z) hx hb hml hown hT hK hP hD hS hA (c_X3_atN l D cA (ad 22) (ad 52) 16 (repl (g 22) (nI (max a b)) (nI (min a b)) k2) k2 (by omega) (by omega)) k_X3_at kl_X2_27 (q0 := 0) rfl rfl rfl [1, 2] rfl rfl rfl rfl hl rfl rfl (Nat.le_of_ble_eq_true rfl) ⟨⟨rfl, rfl⟩, Nat.le_of_ble_eq_true rfl, Nat.le_of_ble_eq_true rfl⟩ ⟨Nat.zero_le _, Nat.zero_le _⟩ dX2_unite_71 (fun H locs hP hD hS => ?_)
            refine q_top (y := (g 22) k2) (repl_k) ?_
            refine lv_iload hx hb dX2_unite_74 (lv_at hl 4 rfl) ?_
            refine lv_icmp_ne (tgt := 89) hx hb dX2_unite_76 (by decide) (fun c_76 => ?_) (fun c_76 => ?_)
            · refine lv_iinc (v := nI (k2 + 1)) (lv' := [(5, .int (nI (k2 + 1))), (0, .ref (ad 72)), (1, .int (nI a)), (2, .int (nI b)), (3, .int (nI (min a b))), (4, .int (nI (max a b)))]) hx hb dX2_unite_89 hl (k := 5) rfl (q_inc1 _) (by decide) rfl (fun ls hl => ?_)
              refine lv_goto (tgt := 58) hx hb dX2_unite_92 (by decide) ?_
              have ew9 : (psW cA ad (gs (gs g 22 (repl (g 22) (nI (max a b)) (nI (min a b)) k2)) 23 (repl (g 23) (nI (max a b)) (nI (min a b)) k)) z) = (psW cA ad (gs (gs g 22 (repl (g 22) (nI (max a b)) (nI (min a b)) (k2 + 1))) 23 (repl (g 23) (nI (max a b)) (nI (min a b)) k)) z) := by first | with_reducible rfl | (first | (rw [repl_0]; rfl) | rw [repl_t c_76] | rw [repl_f c_76])
              have hP : va_P D vwCl (psW cA ad (gs (gs g 22 (repl (g 22) (nI (max a b)) (nI (min a b)) (k2 + 1))) 23 (repl (g 23) (nI (max a b)) (nI (min a b)) k)) z) H := va_cast' hP ew9
              have hD : va_D A (psW cA ad (gs (gs g 22 (repl (g 22) (nI (max a b)) (nI (min a b)) (k2 + 1))) 23 (repl (g 23) (nI (max a b)) (nI (min a b)) k)) z) := va_castD hD ew9
              exact ih58 (k2 + 1) (by omega) (by omega) (by omega) _ _ _ hP hD hS (lv_sub hl [1, 2, 3, 4, 5, 0] rfl)
            · refine lv_aload_n hx hb dX2_unite_79 rfl (lv_at hl 0 rfl) ?_
              refine q_get hx hb hT hown hK hP kw_X2 0 rfl rfl 0 (by decide) kf_X2_14 rfl (v := .ref (ad 22)) rfl dX2_unite_80 ?_
              refine lv_iload hx hb dX2_unite_83 (lv_at hl 5 rfl) ?_
              refine lv_iload_n hx hb dX2_unite_85 rfl (lv_at hl 3 rfl) ?_
              refine q_callV (As := [.int (nI k2), .int (nI (min a b))]) (wc := rowW cA (ad 22) (ad 52) 16 (repl (g 22) (nI (max a b)) (nI (min a b)) k2)) (w1 := rowW cA (ad 22) (ad 52) 16 (upd (repl (g 22) (nI (max a b)) (nI (min a b)) k2) k2 (nI (min a b)))) (ws1 := psW cA ad (gs (gs g 22 (upd (repl (g 22) (nI (max a b)) (nI (min a b)) k2) k2 (nI (min a b)))) 23 (repl (g 23) (nI (max a b)) (nI (min a b)) k)) z) hx hb hml hown hT hK hP hD hS hA (c_X3_putN l D cA (ad 22) (ad 52) 16 (repl (g 22) (nI (max a b)) (nI (min a b)) k2) k2 (nI (min a b)) (by omega) (by omega)) k_X3_put kl_X2_31 (q0 := 0) rfl rfl rfl [1, 2] rfl rfl rfl rfl hl rfl rfl (Nat.le_of_ble_eq_true rfl) ⟨⟨rfl, rfl⟩, Nat.le_of_ble_eq_true rfl, Nat.le_of_ble_eq_true rfl⟩ ⟨Nat.zero_le _, Nat.zero_le _⟩ dX2_unite_86 (fun H locs hP hD hS => ?_)
              obtain ⟨nF86_22, enF86_22⟩ : ∃ y : Nat → Int32, y = upd (repl (g 22) (nI (max a b)) (nI (min a b)) k2) k2 (nI (min a b)) := ⟨_, rfl⟩
              have hP : va_P D vwCl (psW cA ad (gs (gs g 22 nF86_22) 23 (repl (g 23) (nI (max a b)) (nI (min a b)) k)) z) H := by rw [enF86_22]; exact hP
              have hD : va_D A (psW cA ad (gs (gs g 22 nF86_22) 23 (repl (g 23) (nI (max a b)) (nI (min a b)) k)) z) := by rw [enF86_22]; exact hD
              refine lv_iinc (v := nI (k2 + 1)) (lv' := [(5, .int (nI (k2 + 1))), (0, .ref (ad 72)), (1, .int (nI a)), (2, .int (nI b)), (3, .int (nI (min a b))), (4, .int (nI (max a b)))]) hx hb dX2_unite_89 hl (k := 5) rfl (q_inc1 _) (by decide) rfl (fun ls hl => ?_)
              refine lv_goto (tgt := 58) hx hb dX2_unite_92 (by decide) ?_
              rw [enF86_22] at hP hD
              have ew9 : (psW cA ad (gs (gs g 22 (upd (repl (g 22) (nI (max a b)) (nI (min a b)) k2) k2 (nI (min a b)))) 23 (repl (g 23) (nI (max a b)) (nI (min a b)) k)) z) = (psW cA ad (gs (gs g 22 (repl (g 22) (nI (max a b)) (nI (min a b)) (k2 + 1))) 23 (repl (g 23) (nI (max a b)) (nI (min a b)) k)) z) := by first | with_reducible rfl | (first | (rw [repl_0]; rfl) | rw [repl_t c_76] | rw [repl_f c_76])
              have hP : va_P D vwCl (psW cA ad (gs (gs g 22 (repl (g 22) (nI (max a b)) (nI (min a b)) (k2 + 1))) 23 (repl (g 23) (nI (max a b)) (nI (min a b)) k)) z) H := va_cast' hP ew9
              have hD : va_D A (psW cA ad (gs (gs g 22 (repl (g 22) (nI (max a b)) (nI (min a b)) (k2 + 1))) 23 (repl (g 23) (nI (max a b)) (nI (min a b)) k)) z) := va_castD hD ew9
              exact ih58 (k2 + 1) (by omega) (by omega) (by omega) _ _ _ hP hD hS (lv_sub hl [1, 2, 3, 4, 5, 0] rfl)
      refine lv_iload hx hb dX2_unite_16 (lv_at hl 5 rfl) ?_
      refine lv_aload_n hx hb dX2_unite_18 rfl (lv_at hl 0 rfl) ?_
      refine q_get hx hb hT hown hK hP kw_X2 0 rfl rfl 2 (by decide) kf_X2_23 rfl (v := .int (nI (z 2))) rfl dX2_unite_19 ?_
      refine lv_icmp_ge (tgt := 55) hx hb dX2_unite_22 (by decide) (fun c_22 => ?_) (fun c_22 => ?_)
      · have c_22 := nI_le1 (a := z 2) (b := k) (by omega) (by omega) c_22
        refine lv_iconst (v := nI 0) hx hb dX2_unite_55 (by decide +kernel) ?_
        refine lv_istore (lv' := [(5, .int (nI 0)), (0, .ref (ad 72)), (1, .int (nI a)), (2, .int (nI b)), (3, .int (nI (min a b))), (4, .int (nI (max a b)))]) hx hb dX2_unite_56 hl (by decide) rfl (fun ls hl => ?_)
        have ew9 : (psW cA ad (gs g 23 (repl (g 23) (nI (max a b)) (nI (min a b)) k)) z) = (psW cA ad (gs (gs g 22 (repl (g 22) (nI (max a b)) (nI (min a b)) 0)) 23 (repl (g 23) (nI (max a b)) (nI (min a b)) k)) z) := by first | with_reducible rfl | (first | (rw [repl_0]; rfl) | rw [repl_t c_76] | rw [repl_f c_76])
        have hP : va_P D vwCl (psW cA ad (gs (gs g 22 (repl (g 22) (nI (max a b)) (nI (min a b)) 0)) 23 (repl (g 23) (nI (max a b)) (nI (min a b)) k)) z) H := va_cast' hP ew9
        have hD : va_D A (psW cA ad (gs (gs g 22 (repl (g 22) (nI (max a b)) (nI (min a b)) 0)) 23 (repl (g 23) (nI (max a b)) (nI (min a b)) k)) z) := va_castD hD ew9
        exact zqL58 (16 + 1) 0 (by omega) (by omega) (by omega) _ _ _ hP hD hS (lv_sub hl [1, 2, 3, 4, 5, 0] rfl)
      · have c_22 := nI_le0 (a := z 2) (b := k) (by omega) (by omega) c_22
        refine lv_aload_n hx hb dX2_unite_25 rfl (lv_at hl 0 rfl) ?_
        refine q_get hx hb hT hown hK hP kw_X2 0 rfl rfl 1 (by decide) kf_X2_20 rfl (v := .ref (ad 23)) rfl dX2_unite_26 ?_
        refine lv_iload hx hb dX2_unite_29 (lv_at hl 5 rfl) ?_
        refine q_callI (As := [.int (nI k)]) (r := (repl (g 23) (nI (max a b)) (nI (min a b)) k) k) (wc := rowW cA (ad 23) (ad 53) 40 (repl (g 23) (nI (max a b)) (nI (min a b)) k)) (w1 := rowW cA (ad 23) (ad 53) 40 (repl (g 23) (nI (max a b)) (nI (min a b)) k)) (ws1 := psW cA ad (gs g 23 (repl (g 23) (nI (max a b)) (nI (min a b)) k)) z) hx hb hml hown hT hK hP hD hS hA (c_X3_atN l D cA (ad 23) (ad 53) 40 (repl (g 23) (nI (max a b)) (nI (min a b)) k) k (by omega) (by omega)) k_X3_at kl_X2_27 (q0 := 0) rfl rfl rfl [3, 4] rfl rfl rfl rfl hl rfl rfl (Nat.le_of_ble_eq_true rfl) ⟨⟨rfl, rfl⟩, Nat.le_of_ble_eq_true rfl, Nat.le_of_ble_eq_true rfl⟩ ⟨Nat.zero_le _, Nat.zero_le _⟩ dX2_unite_31 (fun H locs hP hD hS => ?_)
        refine q_top (y := (g 23) k) (repl_k) ?_
        refine lv_iload hx hb dX2_unite_34 (lv_at hl 4 rfl) ?_
        refine lv_icmp_ne (tgt := 49) hx hb dX2_unite_36 (by decide) (fun c_36 => ?_) (fun c_36 => ?_)
        · refine lv_iinc (v := nI (k + 1)) (lv' := [(5, .int (nI (k + 1))), (0, .ref (ad 72)), (1, .int (nI a)), (2, .int (nI b)), (3, .int (nI (min a b))), (4, .int (nI (max a b)))]) hx hb dX2_unite_49 hl (k := 5) rfl (q_inc1 _) (by decide) rfl (fun ls hl => ?_)
          refine lv_goto (tgt := 16) hx hb dX2_unite_52 (by decide) ?_
          have ew9 : (psW cA ad (gs g 23 (repl (g 23) (nI (max a b)) (nI (min a b)) k)) z) = (psW cA ad (gs g 23 (repl (g 23) (nI (max a b)) (nI (min a b)) (k + 1))) z) := by first | with_reducible rfl | (first | (rw [repl_0]; rfl) | rw [repl_t c_36] | rw [repl_f c_36])
          have hP : va_P D vwCl (psW cA ad (gs g 23 (repl (g 23) (nI (max a b)) (nI (min a b)) (k + 1))) z) H := va_cast' hP ew9
          have hD : va_D A (psW cA ad (gs g 23 (repl (g 23) (nI (max a b)) (nI (min a b)) (k + 1))) z) := va_castD hD ew9
          exact ih16 (k + 1) (by omega) (by omega) _ _ _ hP hD hS (lv_sub hl [1, 2, 3, 4, 5, 0] rfl)
        · refine lv_aload_n hx hb dX2_unite_39 rfl (lv_at hl 0 rfl) ?_
          refine q_get hx hb hT hown hK hP kw_X2 0 rfl rfl 1 (by decide) kf_X2_20 rfl (v := .ref (ad 23)) rfl dX2_unite_40 ?_
          refine lv_iload hx hb dX2_unite_43 (lv_at hl 5 rfl) ?_
          refine lv_iload_n hx hb dX2_unite_45 rfl (lv_at hl 3 rfl) ?_
          refine q_callV (As := [.int (nI k), .int (nI (min a b))]) (wc := rowW cA (ad 23) (ad 53) 40 (repl (g 23) (nI (max a b)) (nI (min a b)) k)) (w1 := rowW cA (ad 23) (ad 53) 40 (upd (repl (g 23) (nI (max a b)) (nI (min a b)) k) k (nI (min a b)))) (ws1 := psW cA ad (gs g 23 (upd (repl (g 23) (nI (max a b)) (nI (min a b)) k) k (nI (min a b)))) z) hx hb hml hown hT hK hP hD hS hA (c_X3_putN l D cA (ad 23) (ad 53) 40 (repl (g 23) (nI (max a b)) (nI (min a b)) k) k (nI (min a b)) (by omega) (by omega)) k_X3_put kl_X2_31 (q0 := 0) rfl rfl rfl [3, 4] rfl rfl rfl rfl hl rfl rfl (Nat.le_of_ble_eq_true rfl) ⟨⟨rfl, rfl⟩, Nat.le_of_ble_eq_true rfl, Nat.le_of_ble_eq_true rfl⟩ ⟨Nat.zero_le _, Nat.zero_le _⟩ dX2_unite_46 (fun H locs hP hD hS => ?_)
          obtain ⟨nF46_23, enF46_23⟩ : ∃ y : Nat → Int32, y = upd (repl (g 23) (nI (max a b)) (nI (min a b)) k) k (nI (min a b)) := ⟨_, rfl⟩
          have hP : va_P D vwCl (psW cA ad (gs g 23 nF46_23) z) H := by rw [enF46_23]; exact hP
          have hD : va_D A (psW cA ad (gs g 23 nF46_23) z) := by rw [enF46_23]; exact hD
          refine lv_iinc (v := nI (k + 1)) (lv' := [(5, .int (nI (k + 1))), (0, .ref (ad 72)), (1, .int (nI a)), (2, .int (nI b)), (3, .int (nI (min a b))), (4, .int (nI (max a b)))]) hx hb dX2_unite_49 hl (k := 5) rfl (q_inc1 _) (by decide) rfl (fun ls hl => ?_)
          refine lv_goto (tgt := 16) hx hb dX2_unite_52 (by decide) ?_
          rw [enF46_23] at hP hD
          have ew9 : (psW cA ad (gs g 23 (upd (repl (g 23) (nI (max a b)) (nI (min a b)) k) k (nI (min a b)))) z) = (psW cA ad (gs g 23 (repl (g 23) (nI (max a b)) (nI (min a b)) (k + 1))) z) := by first | with_reducible rfl | (first | (rw [repl_0]; rfl) | rw [repl_t c_36] | rw [repl_f c_36])
          have hP : va_P D vwCl (psW cA ad (gs g 23 (repl (g 23) (nI (max a b)) (nI (min a b)) (k + 1))) z) H := va_cast' hP ew9
          have hD : va_D A (psW cA ad (gs g 23 (repl (g 23) (nI (max a b)) (nI (min a b)) (k + 1))) z) := va_castD hD ew9
          exact ih16 (k + 1) (by omega) (by omega) _ _ _ hP hD hS (lv_sub hl [1, 2, 3, 4, 5, 0] rfl)
  refine lv_iload_n hx hb dX2_unite_0 rfl (lv_at hl 1 rfl) ?_
  refine lv_iload_n hx hb dX2_unite_1 rfl (lv_at hl 2 rfl) ?_
  refine q_min hx hb hml hown hT hl kl_X2_35 (Nat.le_of_ble_eq_true rfl) (Nat.le_of_ble_eq_true rfl) ⟨Nat.zero_le _, Nat.zero_le _⟩ dX2_unite_2 ?_
  refine q_top (y := nI (min a b)) (q_minN (by omega) (by omega)) ?_
  refine lv_istore_n (lv' := [(3, .int (nI (min a b))), (0, .ref (ad 72)), (1, .int (nI a)), (2, .int (nI b))]) hx hb dX2_unite_5 rfl hl (by decide) rfl (fun ls hl => ?_)
  refine lv_iload_n hx hb dX2_unite_6 rfl (lv_at hl 2 rfl) ?_
  refine lv_iload_n hx hb dX2_unite_7 rfl (lv_at hl 3 rfl) ?_
  refine q_max hx hb hml hown hT hl kl_X2_41 (Nat.le_of_ble_eq_true rfl) (Nat.le_of_ble_eq_true rfl) ⟨Nat.zero_le _, Nat.zero_le _⟩ dX2_unite_8 ?_
  refine q_top (y := nI (max a b)) (q_maxN (by omega) (by omega)) ?_
  refine lv_istore (lv' := [(4, .int (nI (max a b))), (3, .int (nI (min a b))), (0, .ref (ad 72)), (1, .int (nI a)), (2, .int (nI b))]) hx hb dX2_unite_11 hl (by decide) rfl (fun ls hl => ?_)
  refine lv_iconst (v := nI 0) hx hb dX2_unite_13 (by decide +kernel) ?_
  refine lv_istore (lv' := [(5, .int (nI 0)), (4, .int (nI (max a b))), (3, .int (nI (min a b))), (0, .ref (ad 72)), (1, .int (nI a)), (2, .int (nI b))]) hx hb dX2_unite_14 hl (by decide) rfl (fun ls hl => ?_)
  have ew9 : (psW cA ad g z) = (psW cA ad (gs g 23 (repl (g 23) (nI (max a b)) (nI (min a b)) 0)) z) := by first | with_reducible rfl | (first | (rw [repl_0]; rfl) | rw [repl_t c_36] | rw [repl_f c_36])
  have hP : va_P D vwCl (psW cA ad (gs g 23 (repl (g 23) (nI (max a b)) (nI (min a b)) 0)) z) H := va_cast' hP ew9
  have hD : va_D A (psW cA ad (gs g 23 (repl (g 23) (nI (max a b)) (nI (min a b)) 0)) z) := va_castD hD ew9
  exact zqL16 (z 2 + 1) 0 (by omega) (by omega) _ _ _ hP hD hS (lv_sub hl [3, 4, 5, 2, 1, 0] rfl)
