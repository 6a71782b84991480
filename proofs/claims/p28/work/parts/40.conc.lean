/-! states by their numbers: the rows of a list, what is told of nobody stays free -/
def scB (j : Nat) : Bool := Nat.beq j 6 || Nat.beq j 7 || (Nat.ble 19 j && Nat.ble j 21) || Nat.ble 24 j
def dfl (j : Nat) : Nat := bif Nat.beq j 13 || Nat.beq j 18 then 999 else 0
def cG (L : List (List Nat)) (j k : Nat) : Int32 := nI ((L.getD j []).getD k (dfl j))
def mixG (L : List (List Nat)) (g : Nat → Nat → Int32) : Nat → Nat → Int32 := fun j => bif scB j then g j else cG L j
def cZ (L : List (List Nat)) (j : Nat) : Nat := (L.getD 6 []).getD j 0
def mixZ (L : List (List Nat)) (z : Nat → Nat) : Nat → Nat := fun j => bif Nat.ble 3 j then z j else cZ L j
def isL (L : List (List Nat)) (g : Nat → Nat → Int32) (z : Nat → Nat) : Prop := ∃ (g' : Nat → Nat → Int32) (z' : Nat → Nat), g = mixG L g' ∧ z = mixZ L z' ∧ inv g z
def agB (L : List (List Nat)) (G : Nat → Nat → Int32) (Z : Nat → Nat) : Bool :=
  (Nat.beq (Z 0) (cZ L 0) && Nat.beq (Z 1) (cZ L 1) && Nat.beq (Z 2) (cZ L 2)) && (List.range 24).all (fun j => scB j || (Nat.ble (L.getD j []).length (lenA j) && (List.range (lenA j)).all (fun k => decide (G j k = cG L j k))))
theorem agB_z {L : List (List Nat)} {G : Nat → Nat → Int32} {Z : Nat → Nat} (h : agB L G Z = true) : Z 0 = cZ L 0 ∧ Z 1 = cZ L 1 ∧ Z 2 = cZ L 2 := by
  unfold agB at h
  simp only [Bool.and_eq_true] at h
  exact ⟨Nat.eq_of_beq_eq_true h.1.1.1, Nat.eq_of_beq_eq_true h.1.1.2, Nat.eq_of_beq_eq_true h.1.2⟩
theorem agB_g {L : List (List Nat)} {G : Nat → Nat → Int32} {Z : Nat → Nat} (h : agB L G Z = true) {j : Nat} (hj : scB j = false) : (L.getD j []).length ≤ lenA j ∧ ∀ k, k < lenA j → G j k = cG L j k := by
  unfold agB at h
  rw [Bool.and_eq_true] at h
  have h24 : j < 24 := by
    rcases Nat.lt_or_ge j 24 with q | q
    · exact q
    · exact absurd hj (by unfold scB; rw [Nat.ble_eq_true_of_le q]; simp)
  have h1 := List.all_eq_true.mp h.2 j (List.mem_range.mpr h24)
  rw [hj, Bool.false_or, Bool.and_eq_true] at h1
  refine ⟨Nat.le_of_ble_eq_true h1.1, fun k hk => ?_⟩
  exact of_decide_eq_true (List.all_eq_true.mp h1.2 k (List.mem_range.mpr hk))
theorem outD {g : Nat → Nat → Int32} {z : Nat → Nat} (h : inv g z) {j k : Nat} (hj : scB j = false) (hk : lenA j ≤ k) : g j k = nI (dfl j) := by
  have h24 : j < 24 := by
    rcases Nat.lt_or_ge j 24 with q | q
    · exact q
    · exact absurd hj (by unfold scB; rw [Nat.ble_eq_true_of_le q]; simp)
  have hz := h.hz0
  obtain ⟨hY, ⟨p1, p2, -⟩, -, ⟨o1, o2, o3⟩⟩ := h
  have hy := hY.2.2.2.2.1
  rcases (show j = 0 ∨ j = 1 ∨ j = 2 ∨ j = 3 ∨ j = 4 ∨ j = 5 ∨ j = 6 ∨ j = 7 ∨ j = 8 ∨ j = 9 ∨ j = 10 ∨ j = 11 ∨ j = 12 ∨ j = 13 ∨ j = 14 ∨ j = 15 ∨ j = 16 ∨ j = 17 ∨ j = 18 ∨ j = 19 ∨ j = 20 ∨ j = 21 ∨ j = 22 ∨ j = 23 by omega) with rfl | rfl | rfl | rfl | rfl | rfl | rfl | rfl | rfl | rfl | rfl | rfl | rfl | rfl | rfl | rfl | rfl | rfl | rfl | rfl | rfl | rfl | rfl | rfl
  · exact (o1 k hk).1
  · exact (o1 k hk).2.1
  · exact (o1 k hk).2.2.1
  · exact (o1 k hk).2.2.2.1
  · exact (o1 k hk).2.2.2.2.1
  · exact (o2 k hk).1
  · exact absurd hj (by decide)
  · exact absurd hj (by decide)
  · exact (o2 k hk).2
  · exact (o1 k hk).2.2.2.2.2.1
  · exact (o1 k hk).2.2.2.2.2.2.1
  · exact (o1 k hk).2.2.2.2.2.2.2
  · exact (hy k (Nat.le_trans hz hk)).1
  · exact (hy k (Nat.le_trans hz hk)).2.1
  · exact (o3 k hk).1
  · exact (o3 k hk).2.1
  · exact (o3 k hk).2.2.1
  · exact (hy k (Nat.le_trans hz hk)).2.2.1
  · exact (hy k (Nat.le_trans hz hk)).2.2.2
  · exact absurd hj (by decide)
  · exact absurd hj (by decide)
  · exact absurd hj (by decide)
  · exact p2 k (Nat.le_trans hz hk)
  · exact (o3 k hk).2.2.2
section CN
variable {L L' : List (List Nat)} {g g2 G G' : Nat → Nat → Int32} {z z2 Z : Nat → Nat}
/-- the next state -/
theorem nx (hpe : ∀ j, scB j = false → g2 j = G j) (hz : z2 0 = Z 0 ∧ z2 1 = Z 1 ∧ z2 2 = Z 2) (hI : inv g2 z2) (hc : agB L' G Z = true) : isL L' g2 z2 := by
  obtain ⟨a0, a1, a2⟩ := agB_z hc
  refine ⟨g2, z2, funext fun j => ?_, funext fun j => ?_, hI⟩
  · cases hj : scB j with
    | true => show g2 j = bif scB j then g2 j else cG L' j; rw [hj]; rfl
    | false =>
      show g2 j = bif scB j then g2 j else cG L' j
      rw [hj]
      show g2 j = cG L' j
      obtain ⟨b1, b2⟩ := agB_g hc hj
      funext k
      rcases Nat.lt_or_ge k (lenA j) with q | q
      · rw [hpe j hj]; exact b2 k q
      · rw [outD hI hj q]
        show _ = nI ((L'.getD j []).getD k (dfl j))
        rw [List.getD_eq_getElem?_getD, List.getElem?_eq_none (by omega)]
        rfl
  · show z2 j = bif Nat.ble 3 j then z2 j else cZ L' j
    rcases (show j = 0 ∨ j = 1 ∨ j = 2 ∨ 3 ≤ j by omega) with rfl | rfl | rfl | q
    · exact hz.1.trans a0
    · exact hz.2.1.trans a1
    · exact hz.2.2.trans a2
    · rw [Nat.ble_eq_true_of_le q]; rfl
theorem pe_mix : ∀ j, scB j = false → mixG L g j = cG L j := fun j hj => by
  show (bif scB j then g j else cG L j) = cG L j
  rw [hj]; rfl
theorem pe_gs {k : Nat} {f : Nat → Int32} (h : ∀ j, scB j = false → G j = G' j) : ∀ j, scB j = false → gs G k f j = gs G' k f j := fun j hj => by
  show (bif Nat.beq j k then f else G j) = bif Nat.beq j k then f else G' j
  rw [h j hj]
theorem pe_sc {k : Nat} {f : Nat → Int32} (hk : scB k = true) (h : ∀ j, scB j = false → G j = G' j) : ∀ j, scB j = false → gs G k f j = G' j := fun j hj => by
  rw [gs_n G f (fun q => by rw [q, hk] at hj; cases hj)]
  exact h j hj
/-- the same persistent rows: the same state -/
theorem nx0 (hs : isL L g z) (hg : ∀ j, scB j = false → g2 j = g j) (hz : z2 0 = z 0 ∧ z2 1 = z 1 ∧ z2 2 = z 2) (hI : inv g2 z2) : isL L g2 z2 := by
  obtain ⟨g', z', rfl, rfl, -⟩ := hs
  refine ⟨g2, z2, funext fun j => ?_, funext fun j => ?_, hI⟩
  · cases hj : scB j with
    | true => show g2 j = bif scB j then g2 j else cG L j; rw [hj]; rfl
    | false =>
      show g2 j = bif scB j then g2 j else cG L j
      rw [hg j hj, hj]
      exact pe_mix j hj
  · show z2 j = bif Nat.ble 3 j then z2 j else cZ L j
    rcases (show j = 0 ∨ j = 1 ∨ j = 2 ∨ 3 ≤ j by omega) with rfl | rfl | rfl | q
    · exact hz.1
    · exact hz.2.1
    · exact hz.2.2
    · rw [Nat.ble_eq_true_of_le q]; rfl
end CN
theorem q_CIr {l : Launch} {y : MethodName} {cw : List Cond} {rm : Room} {D : va_G} {cA : ClassId} {av : List Value} {w w' : va_W} {r r' : Int32} (h : q_CI l y cw rm D cA av w r w') (e : r = r') : q_CI l y cw rm D cA av w r' w' := e ▸ h
def cst (l : Launch) (y : MethodName) (cw : List Cond) (rm : Room) (D : va_G) (cA : ClassId) (ad : Nat → Nat) (As : List Value) (L L' : List (List Nat)) (r : Int32) : Prop :=
  ∀ g z, isL L g z → ∃ g2 z2, q_CI l y cw rm D cA (.ref (ad 70) :: As) (rlW cA ad g z) r (rlW cA ad g2 z2) ∧ isL L' g2 z2
theorem ltB {i n : Nat} (h : Nat.blt i n = true) : i < n := Nat.le_of_ble_eq_true h
theorem neB {i j : Nat} (h : (!Nat.beq i j) = true) : ¬ i = j := fun e => by
  subst e
  rw [Nat.beq_refl i] at h
  cases h
section CC
variable {l : Launch} {D : va_G} {cA : ClassId} {ad : Nat → Nat} {L : List (List Nat)}
theorem cs_seal (L' : List (List Nat)) (i j : Nat) (r : Bool) (h : (((Nat.blt i (cZ L 0) && Nat.blt j (cZ L 0)) && !Nat.beq i j) && ((hasB (cG L 9 i) (nI j) == r) && agB L' (gs (cG L) 9 (tellF true (cG L 9) i j)) (cZ L))) = true) : cst l yX5_seal [Cond.code yX5_seal cX5_seal 3 (some .boolean)] rm_X5_seal D cA ad [.int (nI i), .int (nI j)] L L' (q_b r) := by
  rintro g z ⟨g, z, rfl, rfl, hI⟩
  simp only [Bool.and_eq_true] at h
  obtain ⟨⟨⟨h1, h2⟩, h3⟩, h4, h5⟩ := h
  exact ⟨_, _, q_CIr (c_X5_seal l D cA ad (mixG L g) (mixZ L z) i j (ltB h1) (ltB h2) hI.hz0 (neB h3)) (congrArg q_b (eq_of_beq h4)), nx (pe_gs pe_mix) ⟨rfl, rfl, rfl⟩ (iv_seal hI (ltB h1) (ltB h2)) h5⟩
end CC
