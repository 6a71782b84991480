/-- ways from one to another: row f, column t -/
def lenW (ww : Nat → Int32) (f t : Nat) (x : Int32) : Nat → Int32 := upd ww (f * 16 + t) (mx (ww (f * 16 + t)) x)
/-- over one mention on to the first n others -/
def viaW (ww : Nat → Int32) (f v : Nat) (x : Int32) : Nat → Nat → Int32
  | 0 => ww
  | k + 1 => if viaW ww f v x k (v * 16 + k) = (-1000000) then viaW ww f v x k else lenW (viaW ww f v x k) f k (x + viaW ww f v x k (v * 16 + k))
def viaA (ww : Nat → Int32) (f v : Nat) : Nat → Int32 := if ww (f * 16 + v) = (-1000000) then ww else viaW ww f v (ww (f * 16 + v)) 16
def viaF (ww : Nat → Int32) (v : Nat) : Nat → Nat → Int32
  | 0 => ww
  | k + 1 => viaA (viaF ww v k) k v
def viaV (ww : Nat → Int32) : Nat → Nat → Int32
  | 0 => ww
  | k + 1 => viaF (viaV ww k) k 16
def dirW (a b w : Nat → Int32) : Nat → Nat → Int32
  | 0 => fun _ => (-1000000)
  | k + 1 => lenW (dirW a b w k) (q_n (a k)) (q_n (b k)) (w k)
def allW (a b w : Nat → Int32) (t : Nat) : Nat → Int32 := viaV (dirW a b w t) 16
def fstW (lo ww : Nat → Int32) (m : Nat) : Nat → Int32
  | 0 => lo m
  | k + 1 => if ww (k * 16 + m) = (-1000000) then fstW lo ww m k else mx (fstW lo ww m k) (lo k + ww (k * 16 + m))
def lstW (hi ww : Nat → Int32) (m : Nat) : Nat → Int32
  | 0 => hi m
  | k + 1 => if ww (m * 16 + k) = (-1000000) then lstW hi ww m k else mn (lstW hi ww m k) (hi k - ww (m * 16 + k))
theorem viaF_0 {ww : Nat → Int32} {v : Nat} : viaF ww v 0 = ww := rfl
theorem viaF_s {ww : Nat → Int32} {v k : Nat} : viaA (viaF ww v k) k v = viaF ww v (k + 1) := rfl
theorem viaV_0 {ww : Nat → Int32} : viaV ww 0 = ww := rfl
theorem viaV_s {ww : Nat → Int32} {k : Nat} : viaF (viaV ww k) k 16 = viaV ww (k + 1) := rfl
theorem viaW_0 {ww : Nat → Int32} {f v : Nat} {x : Int32} : viaW ww f v x 0 = ww := rfl
theorem dirW_0 {a b w : Nat → Int32} : dirW a b w 0 = fun _ => (-1000000) := rfl
theorem dirW_s {a b w : Nat → Int32} {k : Nat} : lenW (dirW a b w k) (q_n (a k)) (q_n (b k)) (w k) = dirW a b w (k + 1) := rfl
theorem viaW_t {ww : Nat → Int32} {f v k : Nat} {x : Int32} (h : viaW ww f v x k (v * 16 + k) = (-1000000)) : viaW ww f v x k = viaW ww f v x (k + 1) := by rw [viaW, if_pos h]
theorem viaW_f {ww : Nat → Int32} {f v k : Nat} {x : Int32} (h : ¬ viaW ww f v x k (v * 16 + k) = (-1000000)) : lenW (viaW ww f v x k) f k (x + viaW ww f v x k (v * 16 + k)) = viaW ww f v x (k + 1) := by rw [viaW, if_neg h]
theorem viaA_t {ww : Nat → Int32} {f v : Nat} (h : ww (f * 16 + v) = (-1000000)) : ww = viaA ww f v := by rw [viaA, if_pos h]
theorem viaA_f {ww : Nat → Int32} {f v : Nat} (h : ¬ ww (f * 16 + v) = (-1000000)) : viaW ww f v (ww (f * 16 + v)) 16 = viaA ww f v := by rw [viaA, if_neg h]
theorem fstW_0 {lo ww : Nat → Int32} {m : Nat} : fstW lo ww m 0 = lo m := rfl
theorem lstW_0 {lo ww : Nat → Int32} {m : Nat} : lstW lo ww m 0 = lo m := rfl
theorem fstW_t {lo ww : Nat → Int32} {m k : Nat} (h : ww (k * 16 + m) = (-1000000)) : fstW lo ww m k = fstW lo ww m (k + 1) := by rw [fstW, if_pos h]
theorem fstW_f {lo ww : Nat → Int32} {m k : Nat} (h : ¬ ww (k * 16 + m) = (-1000000)) : mx (fstW lo ww m k) (lo k + ww (k * 16 + m)) = fstW lo ww m (k + 1) := by rw [fstW, if_neg h]
theorem lstW_t {lo ww : Nat → Int32} {m k : Nat} (h : ww (m * 16 + k) = (-1000000)) : lstW lo ww m k = lstW lo ww m (k + 1) := by rw [lstW, if_pos h]
theorem lstW_f {lo ww : Nat → Int32} {m k : Nat} (h : ¬ ww (m * 16 + k) = (-1000000)) : mn (lstW lo ww m k) (lo k - ww (m * 16 + k)) = lstW lo ww m (k + 1) := by rw [lstW, if_neg h]
abbrev rm_X4_wayBetween : Room := { frames := 1, cells := 0, slots := 0, locals := 21 }
set_option maxRecDepth 100000 in
set_option maxHeartbeats 4000000 in
theorem c_X4_wayBetween (l : Launch) (D : va_G) (cA : ClassId) (ad : Nat → Nat) (g : Nat → Nat → Int32) (z : Nat → Nat) (f : Nat) (t : Nat) (hf : f < 16) (ht : t < 16) : q_CI l yX4_wayBetween [Cond.code yX4_wayBetween cX4_wayBetween 3 (some .int)] rm_X4_wayBetween D cA [.ref (ad 71), .int (nI f), .int (nI t)] (yrW cA ad g z) ((g 21) (f * 16 + t)) (yrW cA ad g z) := by
  refine q_startI RX4 (by decide +kernel) rfl (Nat.le_of_ble_eq_true rfl) ?_
  intro p e s m below meth c A args H locs ls hx hb hr hml hown hT hlk hP hK hD hA hS hl
  have hl : lv_has ls 3 [(0, .ref (ad 71)), (1, .int (nI f)), (2, .int (nI t))] := hl
  refine lv_aload_n hx hb dX4_wayBetween_0 rfl (lv_at hl 0 rfl) ?_
  refine q_get hx hb hT hown hK hP kw_X4 0 rfl rfl 9 (by decide) kf_X4_44 rfl (v := .ref (ad 21)) rfl dX4_wayBetween_1 ?_
  refine lv_iload_n hx hb dX4_wayBetween_4 rfl (lv_at hl 1 rfl) ?_
  refine lv_bipush (v := nI 16) hx hb dX4_wayBetween_5 (by decide +kernel) ?_
  refine lv_imul hx hb dX4_wayBetween_7 ?_
  refine q_top (y := nI (f * 16)) (pk_mul _ _) ?_
  refine lv_iload_n hx hb dX4_wayBetween_8 rfl (lv_at hl 2 rfl) ?_
  refine lv_iadd hx hb dX4_wayBetween_9 ?_
  refine q_top (y := nI ((f * 16) + t)) (nI_add _ _) ?_
  refine q_callI (As := [.int (nI ((f * 16) + t))]) (r := g 21 ((f * 16) + t)) (wc := rowW cA (ad 21) (ad 51) 256 (g 21)) (w1 := rowW cA (ad 21) (ad 51) 256 (g 21)) (ws1 := yrW cA ad g z) hx hb hml hown hT hK hP hD hS hA (c_X3_atN l D cA (ad 21) (ad 51) 256 (g 21) ((f * 16) + t) (by omega) (by omega)) k_X3_at kl_X4_54 (q0 := 0) rfl rfl rfl [19, 20] rfl rfl rfl rfl hl rfl rfl (Nat.le_of_ble_eq_true rfl) ⟨⟨rfl, rfl⟩, Nat.le_of_ble_eq_true rfl, Nat.le_of_ble_eq_true rfl⟩ ⟨Nat.zero_le _, Nat.zero_le _⟩ dX4_wayBetween_10 (fun H locs hP hD hS => ?_)
  exact q_iret hx hb hr hlk (by rfl) hP hS dX4_wayBetween_13
abbrev rm_X4_lengthen : Room := { frames := 2, cells := 0, slots := 0, locals := 43 }
set_option maxRecDepth 100000 in
set_option maxHeartbeats 4000000 in
theorem c_X4_lengthen (l : Launch) (D : va_G) (cA : ClassId) (ad : Nat → Nat) (g : Nat → Nat → Int32) (z : Nat → Nat) (f : Nat) (t : Nat) (x : Int32) (hf : f < 16) (ht : t < 16) : q_CV l yX4_lengthen [Cond.code yX4_lengthen cX4_lengthen 4 none] rm_X4_lengthen D cA [.ref (ad 71), .int (nI f), .int (nI t), .int x] (yrW cA ad g z) (yrW cA ad (gs g 21 (lenW (g 21) f t x)) z) := by
  refine q_startV RX4 (by decide +kernel) rfl (Nat.le_of_ble_eq_true rfl) ?_
  intro p e s m below meth c A args H locs ls hx hb hr hml hown hT hlk hP hK hD hA hS hl
  have hl : lv_has ls 4 [(0, .ref (ad 71)), (1, .int (nI f)), (2, .int (nI t)), (3, .int x)] := hl
  refine lv_aload_n hx hb dX4_lengthen_0 rfl (lv_at hl 0 rfl) ?_
  refine q_get hx hb hT hown hK hP kw_X4 0 rfl rfl 9 (by decide) kf_X4_44 rfl (v := .ref (ad 21)) rfl dX4_lengthen_1 ?_
  refine lv_iload_n hx hb dX4_lengthen_4 rfl (lv_at hl 1 rfl) ?_
  refine lv_bipush (v := nI 16) hx hb dX4_lengthen_5 (by decide +kernel) ?_
  refine lv_imul hx hb dX4_lengthen_7 ?_
  refine q_top (y := nI (f * 16)) (pk_mul _ _) ?_
  refine lv_iload_n hx hb dX4_lengthen_8 rfl (lv_at hl 2 rfl) ?_
  refine lv_iadd hx hb dX4_lengthen_9 ?_
  refine q_top (y := nI ((f * 16) + t)) (nI_add _ _) ?_
  refine lv_aload_n hx hb dX4_lengthen_10 rfl (lv_at hl 0 rfl) ?_
  refine lv_iload_n hx hb dX4_lengthen_11 rfl (lv_at hl 1 rfl) ?_
  refine lv_iload_n hx hb dX4_lengthen_12 rfl (lv_at hl 2 rfl) ?_
  refine q_callIW (As := [.int (nI f), .int (nI t)]) (r := (g 21) (f * 16 + t)) (w1 := yrW cA ad g z) hx hb hml hown hT hK hP hD hS hA (c_X4_wayBetween l D cA ad g z f t (show f < 16 by omega) (show t < 16 by omega)) k_X4_wayBetween kl_X4_102 (q0 := 0) rfl rfl rfl ((yrW_adr _ _ _ _).trans (yrW_adr _ _ _ _).symm) hl rfl rfl (Nat.le_of_ble_eq_true rfl) ⟨⟨rfl, rfl⟩, Nat.le_of_ble_eq_true rfl, Nat.le_of_ble_eq_true rfl⟩ ⟨Nat.zero_le _, Nat.zero_le _⟩ dX4_lengthen_13 (fun H locs hP hD hS => ?_)
  refine lv_iload_n hx hb dX4_lengthen_16 rfl (lv_at hl 3 rfl) ?_
  refine q_max hx hb hml hown hT hl kl_X4_73 (Nat.le_of_ble_eq_true rfl) (Nat.le_of_ble_eq_true rfl) ⟨Nat.zero_le _, Nat.zero_le _⟩ dX4_lengthen_17 ?_
  refine q_top (y := mx ((g 21) (f * 16 + t)) x) (rfl) ?_
  refine q_callV (As := [.int (nI ((f * 16) + t)), .int (mx ((g 21) (f * 16 + t)) x)]) (wc := rowW cA (ad 21) (ad 51) 256 (g 21)) (w1 := rowW cA (ad 21) (ad 51) 256 (upd (g 21) ((f * 16) + t) (mx ((g 21) (f * 16 + t)) x))) (ws1 := yrW cA ad (gs g 21 (upd (g 21) ((f * 16) + t) (mx ((g 21) (f * 16 + t)) x))) z) hx hb hml hown hT hK hP hD hS hA (c_X3_putN l D cA (ad 21) (ad 51) 256 (g 21) ((f * 16) + t) (mx ((g 21) (f * 16 + t)) x) (by omega) (by omega)) k_X3_put kl_X4_58 (q0 := 0) rfl rfl rfl [19, 20] rfl rfl rfl rfl hl rfl rfl (Nat.le_of_ble_eq_true rfl) ⟨⟨rfl, rfl⟩, Nat.le_of_ble_eq_true rfl, Nat.le_of_ble_eq_true rfl⟩ ⟨Nat.zero_le _, Nat.zero_le _⟩ dX4_lengthen_20 (fun H locs hP hD hS => ?_)
  obtain ⟨nF20_21, enF20_21⟩ : ∃ y : Nat → Int32, y = upd (g 21) ((f * 16) + t) (mx ((g 21) (f * 16 + t)) x) := ⟨_, rfl⟩
  have hP : va_P D vwCl (yrW cA ad (gs g 21 nF20_21) z) H := by rw [enF20_21]; exact hP
  have hD : va_D A (yrW cA ad (gs g 21 nF20_21) z) := by rw [enF20_21]; exact hD
  rw [enF20_21] at hP hD
  exact q_vret hx hb hr hlk (va_cast' hP (by rfl)) hS dX4_lengthen_23
abbrev rm_X4_lengthenAllVia : Room := { frames := 3, cells := 0, slots := 0, locals := 66 }
set_option maxRecDepth 100000 in
set_option maxHeartbeats 4000000 in
theorem c_X4_lengthenAllVia (l : Launch) (D : va_G) (cA : ClassId) (ad : Nat → Nat) (g : Nat → Nat → Int32) (z : Nat → Nat) (f : Nat) (v : Nat) (hf : f < 16) (hv : v < 16) : q_CV l yX4_lengthenAllVia [Cond.code yX4_lengthenAllVia cX4_lengthenAllVia 6 none] rm_X4_lengthenAllVia D cA [.ref (ad 71), .int (nI f), .int (nI v)] (yrW cA ad g z) (yrW cA ad (gs g 21 (viaA (g 21) f v)) z) := by
  refine q_startV RX4 (by decide +kernel) rfl (Nat.le_of_ble_eq_true rfl) ?_
  intro p e s m below meth c A args H locs ls hx hb hr hml hown hT hlk hP hK hD hA hS hl
  have hl : lv_has ls 6 [(0, .ref (ad 71)), (1, .int (nI f)), (2, .int (nI v))] := hl
  have zqL17 : ∀ (fu : Nat), ∀ (k : Nat), (16 + 1 ≤ k + fu) → (k ≤ 16) → (¬ (g 21) (f * 16 + v) = (-1000000)) → ∀ (H : Heap) (locs : List Loc) (ls : Array Slot), va_P D vwCl (yrW cA ad (gs g 21 (viaW (g 21) f v ((g 21) (f * 16 + v)) k)) z) H → va_D A (yrW cA ad (gs g 21 (viaW (g 21) f v ((g 21) (f * 16 + v)) k)) z) → va_S A s.heap H locs → lv_has ls 6 [(0, .ref (ad 71)), (1, .int (nI f)), (2, .int (nI v)), (3, .int ((g 21) (f * 16 + v))), (4, .int (nI k))] → W p l e rm_X4_lengthenAllVia s m args below meth c H locs 0 0 (q_GV D (yrW cA ad (gs g 21 (viaA (g 21) f v)) z) A below args s) (F0 m 17 ls []) := by
    intro fu
    induction fu with
    | zero =>
      intro k hfu hk hw H locs ls hP hD hS hl
      exfalso; omega
    | succ fu ih17 =>
      intro k hfu hk hw H locs ls hP hD hS hl
      refine lv_iload hx hb dX4_lengthenAllVia_17 (lv_at hl 4 rfl) ?_
      refine lv_bipush (v := nI 16) hx hb dX4_lengthenAllVia_19 (by decide +kernel) ?_
      refine lv_icmp_ge (tgt := 57) hx hb dX4_lengthenAllVia_21 (by decide) (fun c_21 => ?_) (fun c_21 => ?_)
      · have c_21 := nI_le1 (a := 16) (b := k) (by omega) (by omega) c_21
        exact q_vret hx hb hr hlk (va_cast' hP (by rw [show k = 16 by omega, viaA_f hw])) hS dX4_lengthenAllVia_57
      · have c_21 := nI_le0 (a := 16) (b := k) (by omega) (by omega) c_21
        refine lv_aload_n hx hb dX4_lengthenAllVia_24 rfl (lv_at hl 0 rfl) ?_
        refine lv_iload_n hx hb dX4_lengthenAllVia_25 rfl (lv_at hl 2 rfl) ?_
        refine lv_iload hx hb dX4_lengthenAllVia_26 (lv_at hl 4 rfl) ?_
        refine q_callIW (As := [.int (nI v), .int (nI k)]) (r := (viaW (g 21) f v ((g 21) (f * 16 + v)) k) (v * 16 + k)) (w1 := yrW cA ad (gs g 21 (viaW (g 21) f v ((g 21) (f * 16 + v)) k)) z) hx hb hml hown hT hK hP hD hS hA (c_X4_wayBetween l D cA ad (gs g 21 (viaW (g 21) f v ((g 21) (f * 16 + v)) k)) z v k (show v < 16 by omega) (show k < 16 by omega)) k_X4_wayBetween kl_X4_102 (q0 := 0) rfl rfl rfl ((yrW_adr _ _ _ _).trans (yrW_adr _ _ _ _).symm) hl rfl rfl (Nat.le_of_ble_eq_true rfl) ⟨⟨rfl, rfl⟩, Nat.le_of_ble_eq_true rfl, Nat.le_of_ble_eq_true rfl⟩ ⟨Nat.zero_le _, Nat.zero_le _⟩ dX4_lengthenAllVia_28 (fun H locs hP hD hS => ?_)
        refine lv_istore (lv' := [(5, .int ((viaW (g 21) f v ((g 21) (f * 16 + v)) k) (v * 16 + k))), (0, .ref (ad 71)), (1, .int (nI f)), (2, .int (nI v)), (3, .int ((g 21) (f * 16 + v))), (4, .int (nI k))]) hx hb dX4_lengthenAllVia_31 hl (by decide) rfl (fun ls hl => ?_)
        refine lv_iload hx hb dX4_lengthenAllVia_33 (lv_at hl 0 rfl) ?_
        refine lv_ldc (v := (-1000000)) hx hb hown (hT.use kk_X4_105 args) dX4_lengthenAllVia_35 ?_
        refine lv_icmp_eq (tgt := 51) hx hb dX4_lengthenAllVia_37 (by decide) (fun c_37 => ?_) (fun c_37 => ?_)
        · refine lv_iinc (v := nI (k + 1)) (lv' := [(4, .int (nI (k + 1))), (5, .int ((viaW (g 21) f v ((g 21) (f * 16 + v)) k) (v * 16 + k))), (0, .ref (ad 71)), (1, .int (nI f)), (2, .int (nI v)), (3, .int ((g 21) (f * 16 + v)))]) hx hb dX4_lengthenAllVia_51 hl (k := 5) rfl (q_inc1 _) (by decide) rfl (fun ls hl => ?_)
          refine lv_goto (tgt := 17) hx hb dX4_lengthenAllVia_54 (by decide) ?_
          have ew9 : (yrW cA ad (gs g 21 (viaW (g 21) f v ((g 21) (f * 16 + v)) k)) z) = (yrW cA ad (gs g 21 (viaW (g 21) f v ((g 21) (f * 16 + v)) (k + 1))) z) := by first | with_reducible rfl | (first | rw [viaW_t c_37] | rw [viaW_f c_37])
          have hP : va_P D vwCl (yrW cA ad (gs g 21 (viaW (g 21) f v ((g 21) (f * 16 + v)) (k + 1))) z) H := va_cast' hP ew9
          have hD : va_D A (yrW cA ad (gs g 21 (viaW (g 21) f v ((g 21) (f * 16 + v)) (k + 1))) z) := va_castD hD ew9
          exact ih17 (k + 1) (by omega) (by omega) hw _ _ _ hP hD hS (lv_sub hl [2, 3, 4, 5, 0] rfl)
        · refine lv_aload_n hx hb dX4_lengthenAllVia_40 rfl (lv_at hl 1 rfl) ?_
          refine lv_iload_n hx hb dX4_lengthenAllVia_41 rfl (lv_at hl 2 rfl) ?_
          refine lv_iload hx hb dX4_lengthenAllVia_42 (lv_at hl 5 rfl) ?_
          refine lv_iload_n hx hb dX4_lengthenAllVia_44 rfl (lv_at hl 4 rfl) ?_
          refine lv_iload hx hb dX4_lengthenAllVia_45 (lv_at hl 0 rfl) ?_
          refine lv_iadd hx hb dX4_lengthenAllVia_47 ?_
          refine q_callVW (As := [.int (nI f), .int (nI k), .int (((g 21) (f * 16 + v)) + ((viaW (g 21) f v ((g 21) (f * 16 + v)) k) (v * 16 + k)))]) (w1 := yrW cA ad (gs g 21 (lenW (viaW (g 21) f v ((g 21) (f * 16 + v)) k) f k (((g 21) (f * 16 + v)) + ((viaW (g 21) f v ((g 21) (f * 16 + v)) k) (v * 16 + k))))) z) hx hb hml hown hT hK hP hD hS hA (c_X4_lengthen l D cA ad (gs g 21 (viaW (g 21) f v ((g 21) (f * 16 + v)) k)) z f k (((g 21) (f * 16 + v)) + ((viaW (g 21) f v ((g 21) (f * 16 + v)) k) (v * 16 + k))) (show f < 16 by omega) (show k < 16 by omega)) k_X4_lengthen kl_X4_106 (q0 := 0) rfl rfl rfl ((yrW_adr _ _ _ _).trans (yrW_adr _ _ _ _).symm) hl rfl rfl (Nat.le_of_ble_eq_true rfl) ⟨⟨rfl, rfl⟩, Nat.le_of_ble_eq_true rfl, Nat.le_of_ble_eq_true rfl⟩ ⟨Nat.zero_le _, Nat.zero_le _⟩ dX4_lengthenAllVia_48 (fun H locs hP hD hS => ?_)
          obtain ⟨nF48_21, enF48_21⟩ : ∃ y : Nat → Int32, y = lenW (viaW (g 21) f v ((g 21) (f * 16 + v)) k) f k (((g 21) (f * 16 + v)) + ((viaW (g 21) f v ((g 21) (f * 16 + v)) k) (v * 16 + k))) := ⟨_, rfl⟩
          have hP : va_P D vwCl (yrW cA ad (gs g 21 nF48_21) z) H := by rw [enF48_21]; exact hP
          have hD : va_D A (yrW cA ad (gs g 21 nF48_21) z) := by rw [enF48_21]; exact hD
          refine lv_iinc (v := nI (k + 1)) (lv' := [(4, .int (nI (k + 1))), (5, .int ((viaW (g 21) f v ((g 21) (f * 16 + v)) k) (v * 16 + k))), (0, .ref (ad 71)), (1, .int (nI f)), (2, .int (nI v)), (3, .int ((g 21) (f * 16 + v)))]) hx hb dX4_lengthenAllVia_51 hl (k := 5) rfl (q_inc1 _) (by decide) rfl (fun ls hl => ?_)
          refine lv_goto (tgt := 17) hx hb dX4_lengthenAllVia_54 (by decide) ?_
          rw [enF48_21] at hP hD
          have ew9 : (yrW cA ad (gs g 21 (lenW (viaW (g 21) f v ((g 21) (f * 16 + v)) k) f k (((g 21) (f * 16 + v)) + ((viaW (g 21) f v ((g 21) (f * 16 + v)) k) (v * 16 + k))))) z) = (yrW cA ad (gs g 21 (viaW (g 21) f v ((g 21) (f * 16 + v)) (k + 1))) z) := by first | with_reducible rfl | (first | rw [viaW_t c_37] | rw [viaW_f c_37])
          have hP : va_P D vwCl (yrW cA ad (gs g 21 (viaW (g 21) f v ((g 21) (f * 16 + v)) (k + 1))) z) H := va_cast' hP ew9
          have hD : va_D A (yrW cA ad (gs g 21 (viaW (g 21) f v ((g 21) (f * 16 + v)) (k + 1))) z) := va_castD hD ew9
          exact ih17 (k + 1) (by omega) (by omega) hw _ _ _ hP hD hS (lv_sub hl [2, 3, 4, 5, 0] rfl)
  refine lv_aload_n hx hb dX4_lengthenAllVia_0 rfl (lv_at hl 0 rfl) ?_
  refine lv_iload_n hx hb dX4_lengthenAllVia_1 rfl (lv_at hl 1 rfl) ?_
  refine lv_iload_n hx hb dX4_lengthenAllVia_2 rfl (lv_at hl 2 rfl) ?_
  refine q_callIW (As := [.int (nI f), .int (nI v)]) (r := (g 21) (f * 16 + v)) (w1 := yrW cA ad g z) hx hb hml hown hT hK hP hD hS hA (c_X4_wayBetween l D cA ad g z f v (show f < 16 by omega) (show v < 16 by omega)) k_X4_wayBetween kl_X4_102 (q0 := 0) rfl rfl rfl ((yrW_adr _ _ _ _).trans (yrW_adr _ _ _ _).symm) hl rfl rfl (Nat.le_of_ble_eq_true rfl) ⟨⟨rfl, rfl⟩, Nat.le_of_ble_eq_true rfl, Nat.le_of_ble_eq_true rfl⟩ ⟨Nat.zero_le _, Nat.zero_le _⟩ dX4_lengthenAllVia_3 (fun H locs hP hD hS => ?_)
  refine lv_istore_n (lv' := [(3, .int ((g 21) (f * 16 + v))), (0, .ref (ad 71)), (1, .int (nI f)), (2, .int (nI v))]) hx hb dX4_lengthenAllVia_6 rfl hl (by decide) rfl (fun ls hl => ?_)
  refine lv_iload_n hx hb dX4_lengthenAllVia_7 rfl (lv_at hl 0 rfl) ?_
  refine lv_ldc (v := (-1000000)) hx hb hown (hT.use kk_X4_105 args) dX4_lengthenAllVia_8 ?_
  refine lv_icmp_ne (tgt := 14) hx hb dX4_lengthenAllVia_10 (by decide) (fun c_10 => ?_) (fun c_10 => ?_)
  · refine lv_iconst (v := nI 0) hx hb dX4_lengthenAllVia_14 (by decide +kernel) ?_
    refine lv_istore (lv' := [(4, .int (nI 0)), (3, .int ((g 21) (f * 16 + v))), (0, .ref (ad 71)), (1, .int (nI f)), (2, .int (nI v))]) hx hb dX4_lengthenAllVia_15 hl (by decide) rfl (fun ls hl => ?_)
    have ew9 : (yrW cA ad g z) = (yrW cA ad (gs g 21 (viaW (g 21) f v ((g 21) (f * 16 + v)) 0)) z) := by first | with_reducible rfl | (rw [viaW_0]; rfl)
    have hP : va_P D vwCl (yrW cA ad (gs g 21 (viaW (g 21) f v ((g 21) (f * 16 + v)) 0)) z) H := va_cast' hP ew9
    have hD : va_D A (yrW cA ad (gs g 21 (viaW (g 21) f v ((g 21) (f * 16 + v)) 0)) z) := va_castD hD ew9
    exact zqL17 (16 + 1) 0 (by omega) (by omega) c_10 _ _ _ hP hD hS (lv_sub hl [2, 3, 4, 1, 0] rfl)
  · exact q_vret hx hb hr hlk (va_cast' hP (by rw [← viaA_t c_10]; rfl)) hS dX4_lengthenAllVia_13
abbrev rm_X4_measureWays : Room := { frames := 4, cells := 0, slots := 0, locals := 91 }
set_option maxRecDepth 100000 in
set_option maxHeartbeats 4000000 in
theorem c_X4_measureWays (l : Launch) (D : va_G) (cA : ClassId) (ad : Nat → Nat) (g : Nat → Nat → Int32) (z : Nat → Nat)  (hE : ∀ k, k < (z 1) → q_r ((g 14) k) 16 ∧ q_r ((g 15) k) 16) (ht : (z 1) ≤ 40) : q_CV l yX4_measureWays [Cond.code yX4_measureWays cX4_measureWays 3 none] rm_X4_measureWays D cA [.ref (ad 71)] (yrW cA ad g z) (yrW cA ad (gs g 21 (allW (g 14) (g 15) (g 16) (z 1))) z) := by
  refine q_startV RX4 (by decide +kernel) rfl (Nat.le_of_ble_eq_true rfl) ?_
  intro p e s m below meth c A args H locs ls hx hb hr hml hown hT hlk hP hK hD hA hS hl
  have hl : lv_has ls 3 [(0, .ref (ad 71))] := hl
  have zqL11 : ∀ (fu : Nat), ∀ (k : Nat), (z 1 + 1 ≤ k + fu) → (k ≤ (z 1)) → ∀ (H : Heap) (locs : List Loc) (ls : Array Slot), va_P D vwCl (yrW cA ad (gs g 21 (dirW (g 14) (g 15) (g 16) k)) z) H → va_D A (yrW cA ad (gs g 21 (dirW (g 14) (g 15) (g 16) k)) z) → va_S A s.heap H locs → lv_has ls 3 [(0, .ref (ad 71)), (1, .int (nI k))] → W p l e rm_X4_measureWays s m args below meth c H locs 0 0 (q_GV D (yrW cA ad (gs g 21 (allW (g 14) (g 15) (g 16) (z 1))) z) A below args s) (F0 m 11 ls []) := by
    intro fu
    induction fu with
    | zero =>
      intro k hfu hk H locs ls hP hD hS hl
      exfalso; omega
    | succ fu ih11 =>
      intro k hfu hk H locs ls hP hD hS hl
      have zqL55 : ∀ (fu : Nat), ∀ (v : Nat), (16 + 1 ≤ v + fu) → (v ≤ 16) → (k = (z 1)) → ∀ (H : Heap) (locs : List Loc) (ls : Array Slot), va_P D vwCl (yrW cA ad (gs g 21 (viaV (dirW (g 14) (g 15) (g 16) (z 1)) v)) z) H → va_D A (yrW cA ad (gs g 21 (viaV (dirW (g 14) (g 15) (g 16) (z 1)) v)) z) → va_S A s.heap H locs → lv_has ls 3 [(0, .ref (ad 71)), (1, .int (nI v))] → W p l e rm_X4_measureWays s m args below meth c H locs 0 0 (q_GV D (yrW cA ad (gs g 21 (allW (g 14) (g 15) (g 16) (z 1))) z) A below args s) (F0 m 55 ls []) := by
        intro fu
        induction fu with
        | zero =>
          intro v hfu hv hkk H locs ls hP hD hS hl
          exfalso; omega
        | succ fu ih55 =>
          intro v hfu hv hkk H locs ls hP hD hS hl
          have zqL63 : ∀ (fu : Nat), ∀ (f : Nat), (16 + 1 ≤ f + fu) → (f ≤ 16) → (v < 16) → ∀ (H : Heap) (locs : List Loc) (ls : Array Slot), va_P D vwCl (yrW cA ad (gs g 21 (viaF (viaV (dirW (g 14) (g 15) (g 16) (z 1)) v) v f)) z) H → va_D A (yrW cA ad (gs g 21 (viaF (viaV (dirW (g 14) (g 15) (g 16) (z 1)) v) v f)) z) → va_S A s.heap H locs → lv_has ls 3 [(0, .ref (ad 71)), (1, .int (nI v)), (2, .int (nI f))] → W p l e rm_X4_measureWays s m args below meth c H locs 0 0 (q_GV D (yrW cA ad (gs g 21 (allW (g 14) (g 15) (g 16) (z 1))) z) A below args s) (F0 m 63 ls []) := by
            intro fu
            induction fu with
            | zero =>
              intro f hfu hf hv2 H locs ls hP hD hS hl
              exfalso; omega
            | succ fu ih63 =>
              intro f hfu hf hv2 H locs ls hP hD hS hl
              refine lv_iload_n hx hb dX4_measureWays_63 rfl (lv_at hl 2 rfl) ?_
              refine lv_bipush (v := nI 16) hx hb dX4_measureWays_64 (by decide +kernel) ?_
              refine lv_icmp_ge (tgt := 81) hx hb dX4_measureWays_66 (by decide) (fun c_66 => ?_) (fun c_66 => ?_)
              · have c_66 := nI_le1 (a := 16) (b := f) (by omega) (by omega) c_66
                refine lv_iinc (v := nI (v + 1)) (lv' := [(1, .int (nI (v + 1))), (0, .ref (ad 71)), (2, .int (nI f))]) hx hb dX4_measureWays_81 hl (k := 1) rfl (q_inc1 _) (by decide) rfl (fun ls hl => ?_)
                refine lv_goto (tgt := 55) hx hb dX4_measureWays_84 (by decide) ?_
                have ew9 : (yrW cA ad (gs g 21 (viaF (viaV (dirW (g 14) (g 15) (g 16) (z 1)) v) v f)) z) = (yrW cA ad (gs g 21 (viaV (dirW (g 14) (g 15) (g 16) (z 1)) (v + 1))) z) := by first | with_reducible rfl | (rw [show f = 16 by omega, viaV_s])
                have hP : va_P D vwCl (yrW cA ad (gs g 21 (viaV (dirW (g 14) (g 15) (g 16) (z 1)) (v + 1))) z) H := va_cast' hP ew9
                have hD : va_D A (yrW cA ad (gs g 21 (viaV (dirW (g 14) (g 15) (g 16) (z 1)) (v + 1))) z) := va_castD hD ew9
                exact ih55 (v + 1) (by omega) (by omega) (by omega) _ _ _ hP hD hS (lv_sub hl [1, 0] rfl)
              · have c_66 := nI_le0 (a := 16) (b := f) (by omega) (by omega) c_66
                refine lv_aload_n hx hb dX4_measureWays_69 rfl (lv_at hl 0 rfl) ?_
                refine lv_iload_n hx hb dX4_measureWays_70 rfl (lv_at hl 2 rfl) ?_
                refine lv_iload_n hx hb dX4_measureWays_71 rfl (lv_at hl 1 rfl) ?_
                refine q_callVW (As := [.int (nI f), .int (nI v)]) (w1 := yrW cA ad (gs g 21 (viaA (viaF (viaV (dirW (g 14) (g 15) (g 16) (z 1)) v) v f) f v)) z) hx hb hml hown hT hK hP hD hS hA (c_X4_lengthenAllVia l D cA ad (gs g 21 (viaF (viaV (dirW (g 14) (g 15) (g 16) (z 1)) v) v f)) z f v (show f < 16 by omega) (show v < 16 by omega)) k_X4_lengthenAllVia kl_X4_110 (q0 := 0) rfl rfl rfl ((yrW_adr _ _ _ _).trans (yrW_adr _ _ _ _).symm) hl rfl rfl (Nat.le_of_ble_eq_true rfl) ⟨⟨rfl, rfl⟩, Nat.le_of_ble_eq_true rfl, Nat.le_of_ble_eq_true rfl⟩ ⟨Nat.zero_le _, Nat.zero_le _⟩ dX4_measureWays_72 (fun H locs hP hD hS => ?_)
                obtain ⟨nF72_21, enF72_21⟩ : ∃ y : Nat → Int32, y = viaA (viaF (viaV (dirW (g 14) (g 15) (g 16) (z 1)) v) v f) f v := ⟨_, rfl⟩
                have hP : va_P D vwCl (yrW cA ad (gs g 21 nF72_21) z) H := by rw [enF72_21]; exact hP
                have hD : va_D A (yrW cA ad (gs g 21 nF72_21) z) := by rw [enF72_21]; exact hD
                refine lv_iinc (v := nI (f + 1)) (lv' := [(2, .int (nI (f + 1))), (0, .ref (ad 71)), (1, .int (nI v))]) hx hb dX4_measureWays_75 hl (k := 2) rfl (q_inc1 _) (by decide) rfl (fun ls hl => ?_)
                refine lv_goto (tgt := 63) hx hb dX4_measureWays_78 (by decide) ?_
                rw [enF72_21] at hP hD
                have ew9 : (yrW cA ad (gs g 21 (viaA (viaF (viaV (dirW (g 14) (g 15) (g 16) (z 1)) v) v f) f v)) z) = (yrW cA ad (gs g 21 (viaF (viaV (dirW (g 14) (g 15) (g 16) (z 1)) v) v (f + 1))) z) := by first | with_reducible rfl | (rw [viaF_s])
                have hP : va_P D vwCl (yrW cA ad (gs g 21 (viaF (viaV (dirW (g 14) (g 15) (g 16) (z 1)) v) v (f + 1))) z) H := va_cast' hP ew9
                have hD : va_D A (yrW cA ad (gs g 21 (viaF (viaV (dirW (g 14) (g 15) (g 16) (z 1)) v) v (f + 1))) z) := va_castD hD ew9
                exact ih63 (f + 1) (by omega) (by omega) (by omega) _ _ _ hP hD hS (lv_sub hl [1, 2, 0] rfl)
          refine lv_iload_n hx hb dX4_measureWays_55 rfl (lv_at hl 1 rfl) ?_
          refine lv_bipush (v := nI 16) hx hb dX4_measureWays_56 (by decide +kernel) ?_
          refine lv_icmp_ge (tgt := 87) hx hb dX4_measureWays_58 (by decide) (fun c_58 => ?_) (fun c_58 => ?_)
          · have c_58 := nI_le1 (a := 16) (b := v) (by omega) (by omega) c_58
            exact q_vret hx hb hr hlk (va_cast' hP (by rw [show v = 16 by omega, allW])) hS dX4_measureWays_87
          · have c_58 := nI_le0 (a := 16) (b := v) (by omega) (by omega) c_58
            refine lv_iconst (v := nI 0) hx hb dX4_measureWays_61 (by decide +kernel) ?_
            refine lv_istore_n (lv' := [(2, .int (nI 0)), (0, .ref (ad 71)), (1, .int (nI v))]) hx hb dX4_measureWays_62 rfl hl (by decide) rfl (fun ls hl => ?_)
            have ew9 : (yrW cA ad (gs g 21 (viaV (dirW (g 14) (g 15) (g 16) (z 1)) v)) z) = (yrW cA ad (gs g 21 (viaF (viaV (dirW (g 14) (g 15) (g 16) (z 1)) v) v 0)) z) := by first | with_reducible rfl | (rw [viaF_0])
            have hP : va_P D vwCl (yrW cA ad (gs g 21 (viaF (viaV (dirW (g 14) (g 15) (g 16) (z 1)) v) v 0)) z) H := va_cast' hP ew9
            have hD : va_D A (yrW cA ad (gs g 21 (viaF (viaV (dirW (g 14) (g 15) (g 16) (z 1)) v) v 0)) z) := va_castD hD ew9
            exact zqL63 (16 + 1) 0 (by omega) (by omega) (by omega) _ _ _ hP hD hS (lv_sub hl [1, 2, 0] rfl)
      refine lv_iload_n hx hb dX4_measureWays_11 rfl (lv_at hl 1 rfl) ?_
      refine lv_aload_n hx hb dX4_measureWays_12 rfl (lv_at hl 0 rfl) ?_
      refine q_get hx hb hT hown hK hP kw_X4 0 rfl rfl 10 (by decide) kf_X4_50 rfl (v := .int (nI (z 1))) rfl dX4_measureWays_13 ?_
      refine lv_icmp_ge (tgt := 53) hx hb dX4_measureWays_16 (by decide) (fun c_16 => ?_) (fun c_16 => ?_)
      · have c_16 := nI_le1 (a := z 1) (b := k) (by omega) (by omega) c_16
        refine lv_iconst (v := nI 0) hx hb dX4_measureWays_53 (by decide +kernel) ?_
        refine lv_istore_n (lv' := [(1, .int (nI 0)), (0, .ref (ad 71))]) hx hb dX4_measureWays_54 rfl hl (by decide) rfl (fun ls hl => ?_)
        have ew9 : (yrW cA ad (gs g 21 (dirW (g 14) (g 15) (g 16) k)) z) = (yrW cA ad (gs g 21 (viaV (dirW (g 14) (g 15) (g 16) (z 1)) 0)) z) := by first | with_reducible rfl | (rw [show k = z 1 by omega, viaV_0])
        have hP : va_P D vwCl (yrW cA ad (gs g 21 (viaV (dirW (g 14) (g 15) (g 16) (z 1)) 0)) z) H := va_cast' hP ew9
        have hD : va_D A (yrW cA ad (gs g 21 (viaV (dirW (g 14) (g 15) (g 16) (z 1)) 0)) z) := va_castD hD ew9
        exact zqL55 (16 + 1) 0 (by omega) (by omega) (by omega) _ _ _ hP hD hS (lv_sub hl [1, 0] rfl)
      · have c_16 := nI_le0 (a := z 1) (b := k) (by omega) (by omega) c_16
        refine lv_aload_n hx hb dX4_measureWays_19 rfl (lv_at hl 0 rfl) ?_
        refine lv_aload_n hx hb dX4_measureWays_20 rfl (lv_at hl 0 rfl) ?_
        refine q_get hx hb hT hown hK hP kw_X4 0 rfl rfl 2 (by decide) kf_X4_23 rfl (v := .ref (ad 14)) rfl dX4_measureWays_21 ?_
        refine lv_iload_n hx hb dX4_measureWays_24 rfl (lv_at hl 1 rfl) ?_
        refine q_callI (As := [.int (nI k)]) (r := g 14 k) (wc := rowW cA (ad 14) (ad 44) 40 (g 14)) (w1 := rowW cA (ad 14) (ad 44) 40 (g 14)) (ws1 := yrW cA ad (gs g 21 (dirW (g 14) (g 15) (g 16) k)) z) hx hb hml hown hT hK hP hD hS hA (c_X3_atN l D cA (ad 14) (ad 44) 40 (g 14) k (by omega) (by omega)) k_X3_at kl_X4_54 (q0 := 0) rfl rfl rfl [5, 6] rfl rfl rfl rfl hl rfl rfl (Nat.le_of_ble_eq_true rfl) ⟨⟨rfl, rfl⟩, Nat.le_of_ble_eq_true rfl, Nat.le_of_ble_eq_true rfl⟩ ⟨Nat.zero_le _, Nat.zero_le _⟩ dX4_measureWays_25 (fun H locs hP hD hS => ?_)
        refine q_top (y := nI (q_n ((g 14) k))) ((hE k (by omega)).1.eq (by omega)) ?_
        refine lv_aload_n hx hb dX4_measureWays_28 rfl (lv_at hl 0 rfl) ?_
        refine q_get hx hb hT hown hK hP kw_X4 0 rfl rfl 3 (by decide) kf_X4_26 rfl (v := .ref (ad 15)) rfl dX4_measureWays_29 ?_
        refine lv_iload_n hx hb dX4_measureWays_32 rfl (lv_at hl 1 rfl) ?_
        refine q_callI (As := [.int (nI k)]) (r := g 15 k) (wc := rowW cA (ad 15) (ad 45) 40 (g 15)) (w1 := rowW cA (ad 15) (ad 45) 40 (g 15)) (ws1 := yrW cA ad (gs g 21 (dirW (g 14) (g 15) (g 16) k)) z) hx hb hml hown hT hK hP hD hS hA (c_X3_atN l D cA (ad 15) (ad 45) 40 (g 15) k (by omega) (by omega)) k_X3_at kl_X4_54 (q0 := 0) rfl rfl rfl [7, 8] rfl rfl rfl rfl hl rfl rfl (Nat.le_of_ble_eq_true rfl) ⟨⟨rfl, rfl⟩, Nat.le_of_ble_eq_true rfl, Nat.le_of_ble_eq_true rfl⟩ ⟨Nat.zero_le _, Nat.zero_le _⟩ dX4_measureWays_33 (fun H locs hP hD hS => ?_)
        refine q_top (y := nI (q_n ((g 15) k))) ((hE k (by omega)).2.eq (by omega)) ?_
        refine lv_aload_n hx hb dX4_measureWays_36 rfl (lv_at hl 0 rfl) ?_
        refine q_get hx hb hT hown hK hP kw_X4 0 rfl rfl 4 (by decide) kf_X4_29 rfl (v := .ref (ad 16)) rfl dX4_measureWays_37 ?_
        refine lv_iload_n hx hb dX4_measureWays_40 rfl (lv_at hl 1 rfl) ?_
        refine q_callI (As := [.int (nI k)]) (r := g 16 k) (wc := rowW cA (ad 16) (ad 46) 40 (g 16)) (w1 := rowW cA (ad 16) (ad 46) 40 (g 16)) (ws1 := yrW cA ad (gs g 21 (dirW (g 14) (g 15) (g 16) k)) z) hx hb hml hown hT hK hP hD hS hA (c_X3_atN l D cA (ad 16) (ad 46) 40 (g 16) k (by omega) (by omega)) k_X3_at kl_X4_54 (q0 := 0) rfl rfl rfl [9, 10] rfl rfl rfl rfl hl rfl rfl (Nat.le_of_ble_eq_true rfl) ⟨⟨rfl, rfl⟩, Nat.le_of_ble_eq_true rfl, Nat.le_of_ble_eq_true rfl⟩ ⟨Nat.zero_le _, Nat.zero_le _⟩ dX4_measureWays_41 (fun H locs hP hD hS => ?_)
        refine q_callVW (As := [.int (nI (q_n ((g 14) k))), .int (nI (q_n ((g 15) k))), .int (g 16 k)]) (w1 := yrW cA ad (gs g 21 (lenW (dirW (g 14) (g 15) (g 16) k) (q_n ((g 14) k)) (q_n ((g 15) k)) (g 16 k))) z) hx hb hml hown hT hK hP hD hS hA (c_X4_lengthen l D cA ad (gs g 21 (dirW (g 14) (g 15) (g 16) k)) z (q_n ((g 14) k)) (q_n ((g 15) k)) (g 16 k) ((hE k (by omega)).1.lt (by omega)) ((hE k (by omega)).2.lt (by omega))) k_X4_lengthen kl_X4_106 (q0 := 0) rfl rfl rfl ((yrW_adr _ _ _ _).trans (yrW_adr _ _ _ _).symm) hl rfl rfl (Nat.le_of_ble_eq_true rfl) ⟨⟨rfl, rfl⟩, Nat.le_of_ble_eq_true rfl, Nat.le_of_ble_eq_true rfl⟩ ⟨Nat.zero_le _, Nat.zero_le _⟩ dX4_measureWays_44 (fun H locs hP hD hS => ?_)
        obtain ⟨nF44_21, enF44_21⟩ : ∃ y : Nat → Int32, y = lenW (dirW (g 14) (g 15) (g 16) k) (q_n ((g 14) k)) (q_n ((g 15) k)) (g 16 k) := ⟨_, rfl⟩
        have hP : va_P D vwCl (yrW cA ad (gs g 21 nF44_21) z) H := by rw [enF44_21]; exact hP
        have hD : va_D A (yrW cA ad (gs g 21 nF44_21) z) := by rw [enF44_21]; exact hD
        refine lv_iinc (v := nI (k + 1)) (lv' := [(1, .int (nI (k + 1))), (0, .ref (ad 71))]) hx hb dX4_measureWays_47 hl (k := 1) rfl (q_inc1 _) (by decide) rfl (fun ls hl => ?_)
        refine lv_goto (tgt := 11) hx hb dX4_measureWays_50 (by decide) ?_
        rw [enF44_21] at hP hD
        have ew9 : (yrW cA ad (gs g 21 (lenW (dirW (g 14) (g 15) (g 16) k) (q_n ((g 14) k)) (q_n ((g 15) k)) (g 16 k))) z) = (yrW cA ad (gs g 21 (dirW (g 14) (g 15) (g 16) (k + 1))) z) := by first | with_reducible rfl | (rw [dirW_s])
        have hP : va_P D vwCl (yrW cA ad (gs g 21 (dirW (g 14) (g 15) (g 16) (k + 1))) z) H := va_cast' hP ew9
        have hD : va_D A (yrW cA ad (gs g 21 (dirW (g 14) (g 15) (g 16) (k + 1))) z) := va_castD hD ew9
        exact ih11 (k + 1) (by omega) (by omega) _ _ _ hP hD hS (lv_sub hl [1, 0] rfl)
  refine lv_aload_n hx hb dX4_measureWays_0 rfl (lv_at hl 0 rfl) ?_
  refine q_get hx hb hT hown hK hP kw_X4 0 rfl rfl 9 (by decide) kf_X4_44 rfl (v := .ref (ad 21)) rfl dX4_measureWays_1 ?_
  refine lv_ldc (v := (-1000000)) hx hb hown (hT.use kk_X4_105 args) dX4_measureWays_4 ?_
  refine q_callV (As := [.int (-1000000)]) (wc := rowW cA (ad 21) (ad 51) 256 (g 21)) (w1 := rowW cA (ad 21) (ad 51) 256 (fun _ => (-1000000))) (ws1 := yrW cA ad (gs g 21 (fun _ => (-1000000))) z) hx hb hml hown hT hK hP hD hS hA (c_X3_fill l D cA (ad 21) (ad 51) 256 (g 21) (-1000000) (by omega)) k_X3_fill kl_X4_47 (q0 := 0) rfl rfl rfl [19, 20] rfl rfl rfl rfl hl rfl rfl (Nat.le_of_ble_eq_true rfl) ⟨⟨rfl, rfl⟩, Nat.le_of_ble_eq_true rfl, Nat.le_of_ble_eq_true rfl⟩ ⟨Nat.zero_le _, Nat.zero_le _⟩ dX4_measureWays_6 (fun H locs hP hD hS => ?_)
  obtain ⟨nF6_21, enF6_21⟩ : ∃ y : Nat → Int32, y = (fun _ => (-1000000)) := ⟨_, rfl⟩
  have hP : va_P D vwCl (yrW cA ad (gs g 21 nF6_21) z) H := by rw [enF6_21]; exact hP
  have hD : va_D A (yrW cA ad (gs g 21 nF6_21) z) := by rw [enF6_21]; exact hD
  refine lv_iconst (v := nI 0) hx hb dX4_measureWays_9 (by decide +kernel) ?_
  refine lv_istore_n (lv' := [(1, .int (nI 0)), (0, .ref (ad 71))]) hx hb dX4_measureWays_10 rfl hl (by decide) rfl (fun ls hl => ?_)
  rw [enF6_21] at hP hD
  have ew9 : (yrW cA ad (gs g 21 (fun _ => (-1000000))) z) = (yrW cA ad (gs g 21 (dirW (g 14) (g 15) (g 16) 0)) z) := by first | with_reducible rfl | (rw [dirW_0])
  have hP : va_P D vwCl (yrW cA ad (gs g 21 (dirW (g 14) (g 15) (g 16) 0)) z) H := va_cast' hP ew9
  have hD : va_D A (yrW cA ad (gs g 21 (dirW (g 14) (g 15) (g 16) 0)) z) := va_castD hD ew9
  exact zqL11 (z 1 + 1) 0 (by omega) (by omega) _ _ _ hP hD hS (lv_sub hl [1, 0] rfl)
abbrev rm_X4_firstByWays : Room := { frames := 5, cells := 0, slots := 0, locals := 113 }
set_option maxRecDepth 100000 in
set_option maxHeartbeats 4000000 in
theorem c_X4_firstByWays (l : Launch) (D : va_G) (cA : ClassId) (ad : Nat → Nat) (g : Nat → Nat → Int32) (z : Nat → Nat) (mi : Nat) (hm : mi < 16) (hE : ∀ k, k < (z 1) → q_r ((g 14) k) 16 ∧ q_r ((g 15) k) 16) (ht : (z 1) ≤ 40) : q_CI l yX4_firstByWays [Cond.code yX4_firstByWays cX4_firstByWays 5 (some .int)] rm_X4_firstByWays D cA [.ref (ad 71), .int (nI mi)] (yrW cA ad g z) (fstW (g 12) (allW (g 14) (g 15) (g 16) (z 1)) mi 16) (yrW cA ad (gs g 21 (allW (g 14) (g 15) (g 16) (z 1))) z) := by
  refine q_startI RX4 (by decide +kernel) rfl (Nat.le_of_ble_eq_true rfl) ?_
  intro p e s m below meth c A args H locs ls hx hb hr hml hown hT hlk hP hK hD hA hS hl
  have hl : lv_has ls 5 [(0, .ref (ad 71)), (1, .int (nI mi))] := hl
  obtain ⟨AW, hAW⟩ : ∃ y : Nat → Int32, y = allW (g 14) (g 15) (g 16) (z 1) := ⟨_, rfl⟩
  have zqL15 : ∀ (fu : Nat), ∀ (k : Nat), (16 + 1 ≤ k + fu) → (k ≤ 16) → ∀ (H : Heap) (locs : List Loc) (ls : Array Slot), va_P D vwCl (yrW cA ad (gs g 21 AW) z) H → va_D A (yrW cA ad (gs g 21 AW) z) → va_S A s.heap H locs → lv_has ls 5 [(0, .ref (ad 71)), (1, .int (nI mi)), (2, .int (fstW (g 12) AW mi k)), (3, .int (nI k))] → W p l e rm_X4_firstByWays s m args below meth c H locs 0 0 (q_GI D (fstW (g 12) (allW (g 14) (g 15) (g 16) (z 1)) mi 16) (yrW cA ad (gs g 21 (allW (g 14) (g 15) (g 16) (z 1))) z) A below args s) (F0 m 15 ls []) := by
    intro fu
    induction fu with
    | zero =>
      intro k hfu hk H locs ls hP hD hS hl
      exfalso; omega
    | succ fu ih15 =>
      intro k hfu hk H locs ls hP hD hS hl
      have zqJ52 : (k < 16) → ∀ (H : Heap) (locs : List Loc) (ls : Array Slot), va_P D vwCl (yrW cA ad (gs g 21 AW) z) H → va_D A (yrW cA ad (gs g 21 AW) z) → va_S A s.heap H locs → lv_has ls 5 [(0, .ref (ad 71)), (1, .int (nI mi)), (2, .int (fstW (g 12) AW mi (k + 1))), (3, .int (nI k))] → W p l e rm_X4_firstByWays s m args below meth c H locs 0 0 (q_GI D (fstW (g 12) (allW (g 14) (g 15) (g 16) (z 1)) mi 16) (yrW cA ad (gs g 21 (allW (g 14) (g 15) (g 16) (z 1))) z) A below args s) (F0 m 52 ls []) := by
        intro  hk9 H locs ls hP hD hS hl
        refine lv_iinc (v := nI (k + 1)) (lv' := [(3, .int (nI (k + 1))), (0, .ref (ad 71)), (1, .int (nI mi)), (2, .int (fstW (g 12) AW mi (k + 1)))]) hx hb dX4_firstByWays_52 hl (k := 3) rfl (q_inc1 _) (by decide) rfl (fun ls hl => ?_)
        refine lv_goto (tgt := 15) hx hb dX4_firstByWays_55 (by decide) ?_
        exact ih15 (k + 1) (by omega) (by omega) _ _ _ hP hD hS (lv_sub hl [1, 2, 3, 0] rfl)
      refine lv_iload_n hx hb dX4_firstByWays_15 rfl (lv_at hl 3 rfl) ?_
      refine lv_bipush (v := nI 16) hx hb dX4_firstByWays_16 (by decide +kernel) ?_
      refine lv_icmp_ge (tgt := 58) hx hb dX4_firstByWays_18 (by decide) (fun c_18 => ?_) (fun c_18 => ?_)
      · have c_18 := nI_le1 (a := 16) (b := k) (by omega) (by omega) c_18
        refine lv_iload_n hx hb dX4_firstByWays_58 rfl (lv_at hl 2 rfl) ?_
        exact q_iret hx hb hr hlk (by rw [show k = 16 by omega, hAW]) (va_cast' hP (by rw [hAW])) hS dX4_firstByWays_59
      · have c_18 := nI_le0 (a := 16) (b := k) (by omega) (by omega) c_18
        refine lv_aload_n hx hb dX4_firstByWays_21 rfl (lv_at hl 0 rfl) ?_
        refine lv_iload_n hx hb dX4_firstByWays_22 rfl (lv_at hl 3 rfl) ?_
        refine lv_iload_n hx hb dX4_firstByWays_23 rfl (lv_at hl 1 rfl) ?_
        refine q_callIW (As := [.int (nI k), .int (nI mi)]) (r := AW (k * 16 + mi)) (w1 := yrW cA ad (gs g 21 AW) z) hx hb hml hown hT hK hP hD hS hA (c_X4_wayBetween l D cA ad (gs g 21 AW) z k mi (show k < 16 by omega) (show mi < 16 by omega)) k_X4_wayBetween kl_X4_102 (q0 := 0) rfl rfl rfl ((yrW_adr _ _ _ _).trans (yrW_adr _ _ _ _).symm) hl rfl rfl (Nat.le_of_ble_eq_true rfl) ⟨⟨rfl, rfl⟩, Nat.le_of_ble_eq_true rfl, Nat.le_of_ble_eq_true rfl⟩ ⟨Nat.zero_le _, Nat.zero_le _⟩ dX4_firstByWays_24 (fun H locs hP hD hS => ?_)
        refine lv_istore (lv' := [(4, .int (AW (k * 16 + mi))), (0, .ref (ad 71)), (1, .int (nI mi)), (2, .int (fstW (g 12) AW mi k)), (3, .int (nI k))]) hx hb dX4_firstByWays_27 hl (by decide) rfl (fun ls hl => ?_)
        refine lv_iload hx hb dX4_firstByWays_29 (lv_at hl 0 rfl) ?_
        refine lv_ldc (v := (-1000000)) hx hb hown (hT.use kk_X4_105 args) dX4_firstByWays_31 ?_
        refine lv_icmp_eq (tgt := 52) hx hb dX4_firstByWays_33 (by decide) (fun c_33 => ?_) (fun c_33 => ?_)
        · have e9_0 : (fstW (g 12) AW mi k) = (fstW (g 12) AW mi (k + 1)) := by first | with_reducible rfl | (first | rw [fstW_t c_33] | rw [fstW_f c_33])
          have hl9 : lv_has ls 5 [(0, .ref (ad 71)), (1, .int (nI mi)), (2, .int (fstW (g 12) AW mi (k + 1))), (3, .int (nI k))] := lv_cast (l := [(0, .ref (ad 71)), (1, .int (nI mi)), (2, .int (fstW (g 12) AW mi k)), (3, .int (nI k))]) (lv_sub hl [1, 2, 3, 4] rfl) (congrArg (fun v9 : Int32 => ([(0, .ref (ad 71)), (1, .int (nI mi)), (2, .int v9), (3, .int (nI k))] : List (Nat × Value))) e9_0)
          exact zqJ52  (by omega) _ _ _ hP hD hS hl9
        · refine lv_iload_n hx hb dX4_firstByWays_36 rfl (lv_at hl 3 rfl) ?_
          refine lv_aload_n hx hb dX4_firstByWays_37 rfl (lv_at hl 1 rfl) ?_
          refine q_get hx hb hT hown hK hP kw_X4 0 rfl rfl 0 (by decide) kf_X4_14 rfl (v := .ref (ad 12)) rfl dX4_firstByWays_38 ?_
          refine lv_iload_n hx hb dX4_firstByWays_41 rfl (lv_at hl 4 rfl) ?_
          refine q_callI (As := [.int (nI k)]) (r := g 12 k) (wc := rowW cA (ad 12) (ad 42) 16 (g 12)) (w1 := rowW cA (ad 12) (ad 42) 16 (g 12)) (ws1 := yrW cA ad (gs g 21 AW) z) hx hb hml hown hT hK hP hD hS hA (c_X3_atN l D cA (ad 12) (ad 42) 16 (g 12) k (by omega) (by omega)) k_X3_at kl_X4_54 (q0 := 0) rfl rfl rfl [1, 2] rfl rfl rfl rfl hl rfl rfl (Nat.le_of_ble_eq_true rfl) ⟨⟨rfl, rfl⟩, Nat.le_of_ble_eq_true rfl, Nat.le_of_ble_eq_true rfl⟩ ⟨Nat.zero_le _, Nat.zero_le _⟩ dX4_firstByWays_42 (fun H locs hP hD hS => ?_)
          refine lv_iload hx hb dX4_firstByWays_45 (lv_at hl 0 rfl) ?_
          refine lv_iadd hx hb dX4_firstByWays_47 ?_
          refine q_max hx hb hml hown hT hl kl_X4_73 (Nat.le_of_ble_eq_true rfl) (Nat.le_of_ble_eq_true rfl) ⟨Nat.zero_le _, Nat.zero_le _⟩ dX4_firstByWays_48 ?_
          refine q_top (y := mx (fstW (g 12) AW mi k) ((g 12) k + AW (k * 16 + mi))) (rfl) ?_
          refine lv_istore_n (lv' := [(2, .int (mx (fstW (g 12) AW mi k) ((g 12) k + AW (k * 16 + mi)))), (4, .int (AW (k * 16 + mi))), (0, .ref (ad 71)), (1, .int (nI mi)), (3, .int (nI k))]) hx hb dX4_firstByWays_51 rfl hl (by decide) rfl (fun ls hl => ?_)
          have e9_0 : (mx (fstW (g 12) AW mi k) ((g 12) k + AW (k * 16 + mi))) = (fstW (g 12) AW mi (k + 1)) := by first | with_reducible rfl | (first | rw [fstW_t c_33] | rw [fstW_f c_33])
          have hl9 : lv_has ls 5 [(0, .ref (ad 71)), (1, .int (nI mi)), (2, .int (fstW (g 12) AW mi (k + 1))), (3, .int (nI k))] := lv_cast (l := [(0, .ref (ad 71)), (1, .int (nI mi)), (2, .int (mx (fstW (g 12) AW mi k) ((g 12) k + AW (k * 16 + mi)))), (3, .int (nI k))]) (lv_sub hl [2, 3, 0, 4] rfl) (congrArg (fun v9 : Int32 => ([(0, .ref (ad 71)), (1, .int (nI mi)), (2, .int v9), (3, .int (nI k))] : List (Nat × Value))) e9_0)
          exact zqJ52  (by omega) _ _ _ hP hD hS hl9
  refine lv_aload_n hx hb dX4_firstByWays_0 rfl (lv_at hl 0 rfl) ?_
  refine q_callVW (As := []) (w1 := yrW cA ad (gs g 21 (allW (g 14) (g 15) (g 16) (z 1))) z) hx hb hml hown hT hK hP hD hS hA (c_X4_measureWays l D cA ad g z hE (show (z 1) ≤ 40 by omega)) k_X4_measureWays kl_X4_99 (q0 := 0) rfl rfl rfl ((yrW_adr _ _ _ _).trans (yrW_adr _ _ _ _).symm) hl rfl rfl (Nat.le_of_ble_eq_true rfl) ⟨⟨rfl, rfl⟩, Nat.le_of_ble_eq_true rfl, Nat.le_of_ble_eq_true rfl⟩ ⟨Nat.zero_le _, Nat.zero_le _⟩ dX4_firstByWays_1 (fun H locs hP hD hS => ?_)
  obtain ⟨nF1_21, enF1_21⟩ : ∃ y : Nat → Int32, y = allW (g 14) (g 15) (g 16) (z 1) := ⟨_, rfl⟩
  have hP : va_P D vwCl (yrW cA ad (gs g 21 nF1_21) z) H := by rw [enF1_21]; exact hP
  have hD : va_D A (yrW cA ad (gs g 21 nF1_21) z) := by rw [enF1_21]; exact hD
  refine lv_aload_n hx hb dX4_firstByWays_4 rfl (lv_at hl 0 rfl) ?_
  refine q_get hx hb hT hown hK hP kw_X4 0 rfl rfl 0 (by decide) kf_X4_14 rfl (v := .ref (ad 12)) rfl dX4_firstByWays_5 ?_
  refine lv_iload_n hx hb dX4_firstByWays_8 rfl (lv_at hl 1 rfl) ?_
  refine q_callI (As := [.int (nI mi)]) (r := g 12 mi) (wc := rowW cA (ad 12) (ad 42) 16 (g 12)) (w1 := rowW cA (ad 12) (ad 42) 16 (g 12)) (ws1 := yrW cA ad (gs g 21 nF1_21) z) hx hb hml hown hT hK hP hD hS hA (c_X3_atN l D cA (ad 12) (ad 42) 16 (g 12) mi (by omega) (by omega)) k_X3_at kl_X4_54 (q0 := 0) rfl rfl rfl [1, 2] rfl rfl rfl rfl hl rfl rfl (Nat.le_of_ble_eq_true rfl) ⟨⟨rfl, rfl⟩, Nat.le_of_ble_eq_true rfl, Nat.le_of_ble_eq_true rfl⟩ ⟨Nat.zero_le _, Nat.zero_le _⟩ dX4_firstByWays_9 (fun H locs hP hD hS => ?_)
  refine lv_istore_n (lv' := [(2, .int (g 12 mi)), (0, .ref (ad 71)), (1, .int (nI mi))]) hx hb dX4_firstByWays_12 rfl hl (by decide) rfl (fun ls hl => ?_)
  refine lv_iconst (v := nI 0) hx hb dX4_firstByWays_13 (by decide +kernel) ?_
  refine lv_istore_n (lv' := [(3, .int (nI 0)), (2, .int (g 12 mi)), (0, .ref (ad 71)), (1, .int (nI mi))]) hx hb dX4_firstByWays_14 rfl hl (by decide) rfl (fun ls hl => ?_)
  rw [enF1_21] at hP hD
  have e9_0 : (g 12 mi) = (fstW (g 12) AW mi 0) := by first | with_reducible rfl | (rw [fstW_0])
  have hl9 : lv_has ls 5 [(0, .ref (ad 71)), (1, .int (nI mi)), (2, .int (fstW (g 12) AW mi 0)), (3, .int (nI 0))] := lv_cast (l := [(0, .ref (ad 71)), (1, .int (nI mi)), (2, .int (g 12 mi)), (3, .int (nI 0))]) (lv_sub hl [2, 3, 1, 0] rfl) (congrArg (fun v9 : Int32 => ([(0, .ref (ad 71)), (1, .int (nI mi)), (2, .int v9), (3, .int (nI 0))] : List (Nat × Value))) e9_0)
  have ew9 : (yrW cA ad (gs g 21 (allW (g 14) (g 15) (g 16) (z 1))) z) = (yrW cA ad (gs g 21 AW) z) := by first | with_reducible rfl | (rw [hAW])
  have hP : va_P D vwCl (yrW cA ad (gs g 21 AW) z) H := va_cast' hP ew9
  have hD : va_D A (yrW cA ad (gs g 21 AW) z) := va_castD hD ew9
  exact zqL15 (16 + 1) 0 (by omega) (by omega) _ _ _ hP hD hS hl9
abbrev rm_X4_lastByWays : Room := { frames := 5, cells := 0, slots := 0, locals := 113 }
set_option maxRecDepth 100000 in
set_option maxHeartbeats 4000000 in
theorem c_X4_lastByWays (l : Launch) (D : va_G) (cA : ClassId) (ad : Nat → Nat) (g : Nat → Nat → Int32) (z : Nat → Nat) (mi : Nat) (hm : mi < 16) (hE : ∀ k, k < (z 1) → q_r ((g 14) k) 16 ∧ q_r ((g 15) k) 16) (ht : (z 1) ≤ 40) : q_CI l yX4_lastByWays [Cond.code yX4_lastByWays cX4_lastByWays 5 (some .int)] rm_X4_lastByWays D cA [.ref (ad 71), .int (nI mi)] (yrW cA ad g z) (lstW (g 13) (allW (g 14) (g 15) (g 16) (z 1)) mi 16) (yrW cA ad (gs g 21 (allW (g 14) (g 15) (g 16) (z 1))) z) := by
  refine q_startI RX4 (by decide +kernel) rfl (Nat.le_of_ble_eq_true rfl) ?_
  intro p e s m below meth c A args H locs ls hx hb hr hml hown hT hlk hP hK hD hA hS hl
  have hl : lv_has ls 5 [(0, .ref (ad 71)), (1, .int (nI mi))] := hl
  obtain ⟨AW, hAW⟩ : ∃ y : Nat → Int32, y = allW (g 14) (g 15) (g 16) (z 1) := ⟨_, rfl⟩
  have zqL15 : ∀ (fu : Nat), ∀ (k : Nat), (16 + 1 ≤ k + fu) → (k ≤ 16) → ∀ (H : Heap) (locs : List Loc) (ls : Array Slot), va_P D vwCl (yrW cA ad (gs g 21 AW) z) H → va_D A (yrW cA ad (gs g 21 AW) z) → va_S A s.heap H locs → lv_has ls 5 [(0, .ref (ad 71)), (1, .int (nI mi)), (2, .int (lstW (g 13) AW mi k)), (3, .int (nI k))] → W p l e rm_X4_lastByWays s m args below meth c H locs 0 0 (q_GI D (lstW (g 13) (allW (g 14) (g 15) (g 16) (z 1)) mi 16) (yrW cA ad (gs g 21 (allW (g 14) (g 15) (g 16) (z 1))) z) A below args s) (F0 m 15 ls []) := by
    intro fu
    induction fu with
    | zero =>
      intro k hfu hk H locs ls hP hD hS hl
      exfalso; omega
    | succ fu ih15 =>
      intro k hfu hk H locs ls hP hD hS hl
      have zqJ52 : (k < 16) → ∀ (H : Heap) (locs : List Loc) (ls : Array Slot), va_P D vwCl (yrW cA ad (gs g 21 AW) z) H → va_D A (yrW cA ad (gs g 21 AW) z) → va_S A s.heap H locs → lv_has ls 5 [(0, .ref (ad 71)), (1, .int (nI mi)), (2, .int (lstW (g 13) AW mi (k + 1))), (3, .int (nI k))] → W p l e rm_X4_lastByWays s m args below meth c H locs 0 0 (q_GI D (lstW (g 13) (allW (g 14) (g 15) (g 16) (z 1)) mi 16) (yrW cA ad (gs g 21 (allW (g 14) (g 15) (g 16) (z 1))) z) A below args s) (F0 m 52 ls []) := by
        intro  hk9 H locs ls hP hD hS hl
        refine lv_iinc (v := nI (k + 1)) (lv' := [(3, .int (nI (k + 1))), (0, .ref (ad 71)), (1, .int (nI mi)), (2, .int (lstW (g 13) AW mi (k + 1)))]) hx hb dX4_lastByWays_52 hl (k := 3) rfl (q_inc1 _) (by decide) rfl (fun ls hl => ?_)
        refine lv_goto (tgt := 15) hx hb dX4_lastByWays_55 (by decide) ?_
        exact ih15 (k + 1) (by omega) (by omega) _ _ _ hP hD hS (lv_sub hl [1, 2, 3, 0] rfl)
      refine lv_iload_n hx hb dX4_lastByWays_15 rfl (lv_at hl 3 rfl) ?_
      refine lv_bipush (v := nI 16) hx hb dX4_lastByWays_16 (by decide +kernel) ?_
      refine lv_icmp_ge (tgt := 58) hx hb dX4_lastByWays_18 (by decide) (fun c_18 => ?_) (fun c_18 => ?_)
      · have c_18 := nI_le1 (a := 16) (b := k) (by omega) (by omega) c_18
        refine lv_iload_n hx hb dX4_lastByWays_58 rfl (lv_at hl 2 rfl) ?_
        exact q_iret hx hb hr hlk (by rw [show k = 16 by omega, hAW]) (va_cast' hP (by rw [hAW])) hS dX4_lastByWays_59
      · have c_18 := nI_le0 (a := 16) (b := k) (by omega) (by omega) c_18
        refine lv_aload_n hx hb dX4_lastByWays_21 rfl (lv_at hl 0 rfl) ?_
        refine lv_iload_n hx hb dX4_lastByWays_22 rfl (lv_at hl 1 rfl) ?_
        refine lv_iload_n hx hb dX4_lastByWays_23 rfl (lv_at hl 3 rfl) ?_
        refine q_callIW (As := [.int (nI mi), .int (nI k)]) (r := AW (mi * 16 + k)) (w1 := yrW cA ad (gs g 21 AW) z) hx hb hml hown hT hK hP hD hS hA (c_X4_wayBetween l D cA ad (gs g 21 AW) z mi k (show mi < 16 by omega) (show k < 16 by omega)) k_X4_wayBetween kl_X4_102 (q0 := 0) rfl rfl rfl ((yrW_adr _ _ _ _).trans (yrW_adr _ _ _ _).symm) hl rfl rfl (Nat.le_of_ble_eq_true rfl) ⟨⟨rfl, rfl⟩, Nat.le_of_ble_eq_true rfl, Nat.le_of_ble_eq_true rfl⟩ ⟨Nat.zero_le _, Nat.zero_le _⟩ dX4_lastByWays_24 (fun H locs hP hD hS => ?_)
        refine lv_istore (lv' := [(4, .int (AW (mi * 16 + k))), (0, .ref (ad 71)), (1, .int (nI mi)), (2, .int (lstW (g 13) AW mi k)), (3, .int (nI k))]) hx hb dX4_lastByWays_27 hl (by decide) rfl (fun ls hl => ?_)
        refine lv_iload hx hb dX4_lastByWays_29 (lv_at hl 0 rfl) ?_
        refine lv_ldc (v := (-1000000)) hx hb hown (hT.use kk_X4_105 args) dX4_lastByWays_31 ?_
        refine lv_icmp_eq (tgt := 52) hx hb dX4_lastByWays_33 (by decide) (fun c_33 => ?_) (fun c_33 => ?_)
        · have e9_0 : (lstW (g 13) AW mi k) = (lstW (g 13) AW mi (k + 1)) := by first | with_reducible rfl | (first | rw [lstW_t c_33] | rw [lstW_f c_33])
          have hl9 : lv_has ls 5 [(0, .ref (ad 71)), (1, .int (nI mi)), (2, .int (lstW (g 13) AW mi (k + 1))), (3, .int (nI k))] := lv_cast (l := [(0, .ref (ad 71)), (1, .int (nI mi)), (2, .int (lstW (g 13) AW mi k)), (3, .int (nI k))]) (lv_sub hl [1, 2, 3, 4] rfl) (congrArg (fun v9 : Int32 => ([(0, .ref (ad 71)), (1, .int (nI mi)), (2, .int v9), (3, .int (nI k))] : List (Nat × Value))) e9_0)
          exact zqJ52  (by omega) _ _ _ hP hD hS hl9
        · refine lv_iload_n hx hb dX4_lastByWays_36 rfl (lv_at hl 3 rfl) ?_
          refine lv_aload_n hx hb dX4_lastByWays_37 rfl (lv_at hl 1 rfl) ?_
          refine q_get hx hb hT hown hK hP kw_X4 0 rfl rfl 1 (by decide) kf_X4_20 rfl (v := .ref (ad 13)) rfl dX4_lastByWays_38 ?_
          refine lv_iload_n hx hb dX4_lastByWays_41 rfl (lv_at hl 4 rfl) ?_
          refine q_callI (As := [.int (nI k)]) (r := g 13 k) (wc := rowW cA (ad 13) (ad 43) 16 (g 13)) (w1 := rowW cA (ad 13) (ad 43) 16 (g 13)) (ws1 := yrW cA ad (gs g 21 AW) z) hx hb hml hown hT hK hP hD hS hA (c_X3_atN l D cA (ad 13) (ad 43) 16 (g 13) k (by omega) (by omega)) k_X3_at kl_X4_54 (q0 := 0) rfl rfl rfl [3, 4] rfl rfl rfl rfl hl rfl rfl (Nat.le_of_ble_eq_true rfl) ⟨⟨rfl, rfl⟩, Nat.le_of_ble_eq_true rfl, Nat.le_of_ble_eq_true rfl⟩ ⟨Nat.zero_le _, Nat.zero_le _⟩ dX4_lastByWays_42 (fun H locs hP hD hS => ?_)
          refine lv_iload hx hb dX4_lastByWays_45 (lv_at hl 0 rfl) ?_
          refine lv_isub hx hb dX4_lastByWays_47 ?_
          refine q_min hx hb hml hown hT hl kl_X4_79 (Nat.le_of_ble_eq_true rfl) (Nat.le_of_ble_eq_true rfl) ⟨Nat.zero_le _, Nat.zero_le _⟩ dX4_lastByWays_48 ?_
          refine q_top (y := mn (lstW (g 13) AW mi k) ((g 13) k - AW (mi * 16 + k))) (rfl) ?_
          refine lv_istore_n (lv' := [(2, .int (mn (lstW (g 13) AW mi k) ((g 13) k - AW (mi * 16 + k)))), (4, .int (AW (mi * 16 + k))), (0, .ref (ad 71)), (1, .int (nI mi)), (3, .int (nI k))]) hx hb dX4_lastByWays_51 rfl hl (by decide) rfl (fun ls hl => ?_)
          have e9_0 : (mn (lstW (g 13) AW mi k) ((g 13) k - AW (mi * 16 + k))) = (lstW (g 13) AW mi (k + 1)) := by first | with_reducible rfl | (first | rw [lstW_t c_33] | rw [lstW_f c_33])
          have hl9 : lv_has ls 5 [(0, .ref (ad 71)), (1, .int (nI mi)), (2, .int (lstW (g 13) AW mi (k + 1))), (3, .int (nI k))] := lv_cast (l := [(0, .ref (ad 71)), (1, .int (nI mi)), (2, .int (mn (lstW (g 13) AW mi k) ((g 13) k - AW (mi * 16 + k)))), (3, .int (nI k))]) (lv_sub hl [2, 3, 0, 4] rfl) (congrArg (fun v9 : Int32 => ([(0, .ref (ad 71)), (1, .int (nI mi)), (2, .int v9), (3, .int (nI k))] : List (Nat × Value))) e9_0)
          exact zqJ52  (by omega) _ _ _ hP hD hS hl9
  refine lv_aload_n hx hb dX4_lastByWays_0 rfl (lv_at hl 0 rfl) ?_
  refine q_callVW (As := []) (w1 := yrW cA ad (gs g 21 (allW (g 14) (g 15) (g 16) (z 1))) z) hx hb hml hown hT hK hP hD hS hA (c_X4_measureWays l D cA ad g z hE (show (z 1) ≤ 40 by omega)) k_X4_measureWays kl_X4_99 (q0 := 0) rfl rfl rfl ((yrW_adr _ _ _ _).trans (yrW_adr _ _ _ _).symm) hl rfl rfl (Nat.le_of_ble_eq_true rfl) ⟨⟨rfl, rfl⟩, Nat.le_of_ble_eq_true rfl, Nat.le_of_ble_eq_true rfl⟩ ⟨Nat.zero_le _, Nat.zero_le _⟩ dX4_lastByWays_1 (fun H locs hP hD hS => ?_)
  obtain ⟨nF1_21, enF1_21⟩ : ∃ y : Nat → Int32, y = allW (g 14) (g 15) (g 16) (z 1) := ⟨_, rfl⟩
  have hP : va_P D vwCl (yrW cA ad (gs g 21 nF1_21) z) H := by rw [enF1_21]; exact hP
  have hD : va_D A (yrW cA ad (gs g 21 nF1_21) z) := by rw [enF1_21]; exact hD
  refine lv_aload_n hx hb dX4_lastByWays_4 rfl (lv_at hl 0 rfl) ?_
  refine q_get hx hb hT hown hK hP kw_X4 0 rfl rfl 1 (by decide) kf_X4_20 rfl (v := .ref (ad 13)) rfl dX4_lastByWays_5 ?_
  refine lv_iload_n hx hb dX4_lastByWays_8 rfl (lv_at hl 1 rfl) ?_
  refine q_callI (As := [.int (nI mi)]) (r := g 13 mi) (wc := rowW cA (ad 13) (ad 43) 16 (g 13)) (w1 := rowW cA (ad 13) (ad 43) 16 (g 13)) (ws1 := yrW cA ad (gs g 21 nF1_21) z) hx hb hml hown hT hK hP hD hS hA (c_X3_atN l D cA (ad 13) (ad 43) 16 (g 13) mi (by omega) (by omega)) k_X3_at kl_X4_54 (q0 := 0) rfl rfl rfl [3, 4] rfl rfl rfl rfl hl rfl rfl (Nat.le_of_ble_eq_true rfl) ⟨⟨rfl, rfl⟩, Nat.le_of_ble_eq_true rfl, Nat.le_of_ble_eq_true rfl⟩ ⟨Nat.zero_le _, Nat.zero_le _⟩ dX4_lastByWays_9 (fun H locs hP hD hS => ?_)
  refine lv_istore_n (lv' := [(2, .int (g 13 mi)), (0, .ref (ad 71)), (1, .int (nI mi))]) hx hb dX4_lastByWays_12 rfl hl (by decide) rfl (fun ls hl => ?_)
  refine lv_iconst (v := nI 0) hx hb dX4_lastByWays_13 (by decide +kernel) ?_
  refine lv_istore_n (lv' := [(3, .int (nI 0)), (2, .int (g 13 mi)), (0, .ref (ad 71)), (1, .int (nI mi))]) hx hb dX4_lastByWays_14 rfl hl (by decide) rfl (fun ls hl => ?_)
  rw [enF1_21] at hP hD
  have e9_0 : (g 13 mi) = (lstW (g 13) AW mi 0) := by first | with_reducible rfl | (rw [lstW_0])
  have hl9 : lv_has ls 5 [(0, .ref (ad 71)), (1, .int (nI mi)), (2, .int (lstW (g 13) AW mi 0)), (3, .int (nI 0))] := lv_cast (l := [(0, .ref (ad 71)), (1, .int (nI mi)), (2, .int (g 13 mi)), (3, .int (nI 0))]) (lv_sub hl [2, 3, 1, 0] rfl) (congrArg (fun v9 : Int32 => ([(0, .ref (ad 71)), (1, .int (nI mi)), (2, .int v9), (3, .int (nI 0))] : List (Nat × Value))) e9_0)
  have ew9 : (yrW cA ad (gs g 21 (allW (g 14) (g 15) (g 16) (z 1))) z) = (yrW cA ad (gs g 21 AW) z) := by first | with_reducible rfl | (rw [hAW])
  have hP : va_P D vwCl (yrW cA ad (gs g 21 AW) z) H := va_cast' hP ew9
  have hD : va_D A (yrW cA ad (gs g 21 AW) z) := va_castD hD ew9
  exact zqL15 (16 + 1) 0 (by omega) (by omega) _ _ _ hP hD hS hl9
