abbrev ckBest (L : List (List Nat)) (n due : Nat) : Bool := (Nat.blt n (2 ^ cZ L 0) && Nat.ble (pcN n) 6) && decide (bpB (lpO (wopM (cG L) (lopM (nI n) (fun _ => nI 0) (cZ L 0))) (fun _ => nI 0) (bitC (nI n) (cZ L 0)) (bitC (nI n) (cZ L 0))) (fun _ => nI 0) (fun _ => nI 0) (bitC (nI n) (cZ L 0)) (2 ^ (bitC (nI n) (cZ L 0)) - 1) (2 ^ (bitC (nI n) (cZ L 0)) - 1) = nI due)
theorem inv_z3 {g : Nat → Nat → Int32} {z : Nat → Nat} {v : Nat} (hI : inv g z) : inv g (zs z 3 v) := hI
section LB
variable {L : List (List Nat)} {g : Nat → Nat → Int32} {z : Nat → Nat}
theorem sc_best (hs : isL L g z) (X1 X2 X3 X4 : Nat → Int32) (v : Nat) : isL L (gs (gs (gs (gs g 24 X1) 25 X2) 26 X3) 27 X4) (zs z 3 v) := by
  have hI : inv g z := by obtain ⟨_, _, _, _, h⟩ := hs; exact h
  exact nx0 hs (pe_sc rfl (pe_sc rfl (pe_sc rfl (pe_sc rfl (fun _ _ => rfl))))) ⟨rfl, rfl, rfl⟩ (inv_z3 (inv_sc rfl (inv_sc rfl (inv_sc rfl (inv_sc rfl hI)))))
theorem sc_bestAnew (hs : isL L g z) (X1 X2 X3 : Nat → Int32) (v : Nat) : isL L (gs (gs (gs g 24 X1) 25 X2) 28 X3) (zs z 3 v) := by
  have hI : inv g z := by obtain ⟨_, _, _, _, h⟩ := hs; exact h
  exact nx0 hs (pe_sc rfl (pe_sc rfl (pe_sc rfl (fun _ _ => rfl)))) ⟨rfl, rfl, rfl⟩ (inv_z3 (inv_sc rfl (inv_sc rfl (inv_sc rfl hI))))
theorem cs_best {l : Launch} {D : va_G} {cA : ClassId} {ad : Nat → Nat} (n due : Nat) (h : ckBest L n due = true) : cst l yX5_best [Cond.code yX5_best cX5_best 2 (some .int)] rm_X5_best D cA ad [.int (nI n)] L L (nI due) := by
  intro g z hs
  obtain ⟨g', z', e1, e2, hI⟩ := id hs
  obtain ⟨ha, h3⟩ := band h
  obtain ⟨h1, h2⟩ := band ha
  have z0 : z 0 = cZ L 0 := by rw [e2]; rfl
  have hn : n < 2 ^ z 0 := by rw [z0]; exact ltB h1
  have hb := Nat.le_of_ble_eq_true h2
  have c5 := c_X5_best l D cA ad g z n hn hb hI.hz0
  have bo := (best_ok (g' := g) (g := cG L) (p1 := fun _ => nI 0) (p2 := fun _ => nI 0) (gw := fun _ => nI 0) (be := fun _ => nI 0) (p1' := g 24) (p2' := g 25) (gw' := g 26) (be' := g 27) hn hI.hz0 hb (by rw [e1]; rfl) (by rw [e1]; rfl) (by rw [e1]; rfl) (by rw [e1]; rfl) (by rw [e1]; rfl) (by rw [e1]; rfl)).1
  rw [bo] at c5
  have h3 := of_decide_eq_true h3
  rw [← z0] at h3
  exact ⟨_, _, q_CIr c5 h3, sc_best hs _ _ _ _ _⟩
theorem cs_bestAnew {l : Launch} {D : va_G} {cA : ClassId} {ad : Nat → Nat} (n due : Nat) (h : ckBest L n due = true) : cst l yX5_bestAnew [Cond.code yX5_bestAnew cX5_bestAnew 2 (some .int)] rm_X5_bestAnew D cA ad [.int (nI n)] L L (nI due) := by
  intro g z hs
  obtain ⟨g', z', e1, e2, hI⟩ := id hs
  obtain ⟨ha, h3⟩ := band h
  obtain ⟨h1, h2⟩ := band ha
  have z0 : z 0 = cZ L 0 := by rw [e2]; rfl
  have hn : n < 2 ^ z 0 := by rw [z0]; exact ltB h1
  have hb := Nat.le_of_ble_eq_true h2
  have c5 := c_X5_bestAnew l D cA ad g z n hn hb hI.hz0
  have bo := (best_ok (g' := g) (g := cG L) (p1 := fun _ => nI 0) (p2 := fun _ => nI 0) (gw := fun _ => nI 0) (be := fun _ => nI 0) (p1' := g 24) (p2' := g 25) (gw' := g 26) (be' := g 27) hn hI.hz0 hb (by rw [e1]; rfl) (by rw [e1]; rfl) (by rw [e1]; rfl) (by rw [e1]; rfl) (by rw [e1]; rfl) (by rw [e1]; rfl)).2.1
  rw [bo] at c5
  have h3 := of_decide_eq_true h3
  rw [← z0] at h3
  exact ⟨_, _, q_CIr c5 h3, sc_bestAnew hs _ _ _ _⟩
end LB
set_option maxRecDepth 100000 in
set_option maxHeartbeats 4000000 in
theorem cs_Lbest {l : Launch} (htr : l.stackTraces = false) {D : va_G} {cA : ClassId} {ad : Nat → Nat} {L : List (List Nat)} (i j : Nat) (h : ckBest L i j = true) : csl l yL_best [Cond.code yL_best cL_best 3 (some .boolean)] rm_Lw D cA ad [.int (nI i), .int (nI j)] L L (nI 1) := by
  intro g z hs
  refine q_startP RL (by decide +kernel) rfl (Nat.le_of_ble_eq_true rfl) ?_
  intro p e s m below meth c A args H locs ls hx hb hr hml hown hT hlk hP hK hD hA hS hl hX hN hZ
  have C : lcx p l s m c cL_best 3 D cA A := ⟨hx, hb, hml, hown, hT, hK, hA, hX, hN, hZ, htr⟩
  have hl : lv_has ls 3 [(0, .ref (ad 70)), (1, .int (nI i)), (2, .int (nI j))] := hl
  refine lv_aload_n hx hb dL_best_0 rfl (lv_at hl 0 rfl) ?_
  refine lv_iload_n hx hb dL_best_1 rfl (lv_at hl 1 rfl) ?_
  refine q_cO (As := [.int (nI i)]) C hs hP hD hS (cs_best i j h) k_X5_best kl_L_79 rfl hl rfl rfl (Nat.le_of_ble_eq_true rfl) ⟨⟨rfl, rfl⟩, Nat.le_of_ble_eq_true rfl, Nat.le_of_ble_eq_true rfl⟩ ⟨Nat.zero_le _, Nat.zero_le _⟩ dL_best_2 (fun g z H locs hs hP hD hS => ?_)
  refine lv_iload_n hx hb dL_best_5 rfl (lv_at hl 2 rfl) ?_
  refine lv_icmp_ne (tgt := 22) hx hb dL_best_6 (by decide) (fun c9 => absurd rfl c9) (fun _ => ?_)
  refine lv_aload_n hx hb dL_best_9 rfl (lv_at hl 0 rfl) ?_
  refine lv_iload_n hx hb dL_best_10 rfl (lv_at hl 1 rfl) ?_
  refine q_cO (As := [.int (nI i)]) C hs hP hD hS (cs_bestAnew i j h) k_X5_bestAnew kl_L_82 rfl hl rfl rfl (Nat.le_of_ble_eq_true rfl) ⟨⟨rfl, rfl⟩, Nat.le_of_ble_eq_true rfl, Nat.le_of_ble_eq_true rfl⟩ ⟨Nat.zero_le _, Nat.zero_le _⟩ dL_best_11 (fun g z H locs hs hP hD hS => ?_)
  refine lv_iload_n hx hb dL_best_14 rfl (lv_at hl 2 rfl) ?_
  refine lv_icmp_ne (tgt := 22) hx hb dL_best_15 (by decide) (fun c9 => absurd rfl c9) (fun _ => ?_)
  refine lv_iconst (v := nI 1) hx hb dL_best_18 (by decide +kernel) ?_
  refine lv_goto (tgt := 23) hx hb dL_best_19 (by decide) ?_
  exact q_lzret hx hb hr hlk (Or.inr rfl) rfl ⟨g, z, rfl, hs⟩ hP hS (Nat.le_refl _) (Nat.le_refl _) dL_best_23
