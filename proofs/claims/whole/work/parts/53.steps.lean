/-! a call on both sides: codes, answers, the states behind -/
def q_ST (l : Launch) (D : va_G) (cA cL : ClassId) (yw : MethodName) (cw : List Cond) (aw : List Value) (ym : MethodName) (cm : List Cond) (am : List Value) (ad ad' : Nat → Nat) (o : Nat) (bo : Bool) (g : Nat → Nat → Int32) (z : Nat → Nat) (g' : Nat → Nat → Int32) (z' : Nat → Nat) (f : Nat → Int64) : Prop :=
  ∃ (k : Nat) (r : Int32) (f2 : Nat → Int64) (g2 : Nat → Nat → Int32) (z2 : Nat → Nat) (g3 : Nat → Nat → Int32) (z3 : Nat → Nat) (rm : Room), k ≤ 3 ∧
    q_CL l yw cw rm_L D cA cL aw ((o, .inl (cL, 1, .inr (.inl f))) :: rlW cA ad g z) (nI k) ((o, .inl (cL, 1, .inr (.inl f2))) :: rlW cA ad g2 z2) ∧
    (rm.cells = 0 ∧ rm.slots = 0 ∧ rm.frames ≤ 8 ∧ rm.locals ≤ 139) ∧ q_CI l ym cm rm D cA am (mdW cA ad' g' z') r (mdW cA ad' g3 z3) ∧ z3 4 = k ∧ (k = 0 → f2 0 = r.toInt64) ∧ (bo = true → r = nI 0 ∨ r = nI 1) ∧ rRel g2 z2 g3 z3
section ST
variable {l : Launch} {D : va_G} {cA cL : ClassId} {yw : MethodName} {cw : List Cond} {aw : List Value} {ym : MethodName} {cm : List Cond} {am : List Value} {ad ad' : Nat → Nat} {o : Nat} {bo : Bool} {g g2 g' g3 : Nat → Nat → Int32} {z z2 z' z3 : Nat → Nat} {f : Nat → Int64} {rm : Room}
theorem st_thr {k : Nat} (hk : k ≤ 3) (hk0 : k ≠ 0) (hw : q_CL l yw cw rm_L D cA cL aw ((o, .inl (cL, 1, .inr (.inl f))) :: rlW cA ad g z) (nI k) ((o, .inl (cL, 1, .inr (.inl f))) :: rlW cA ad g2 z2))
    (hm : q_CI l ym cm rm D cA am (mdW cA ad' g' z') (nI 0) (mdW cA ad' g3 z3)) (hrm : rm.cells = 0 ∧ rm.slots = 0 ∧ rm.frames ≤ 8 ∧ rm.locals ≤ 139) (h4 : z3 4 = k) (hR : rRel g2 z2 g3 z3) : q_ST l D cA cL yw cw aw ym cm am ad ad' o bo g z g' z' f :=
  ⟨k, nI 0, f, g2, z2, g3, z3, rm, hk, hw, hrm, hm, h4, fun h => absurd h hk0, fun _ => Or.inl rfl, hR⟩
theorem st_ok {r r' : Int32} (hw : q_CL l yw cw rm_L D cA cL aw ((o, .inl (cL, 1, .inr (.inl f))) :: rlW cA ad g z) (nI 0) ((o, .inl (cL, 1, .inr (.inl (vp_updL f 0 r.toInt64)))) :: rlW cA ad g2 z2))
    (hm : q_CI l ym cm rm D cA am (mdW cA ad' g' z') r' (mdW cA ad' g3 z3)) (hrm : rm.cells = 0 ∧ rm.slots = 0 ∧ rm.frames ≤ 8 ∧ rm.locals ≤ 139) (h4 : z3 4 = 0) (he : r' = r) (hR : rRel g2 z2 g3 z3) : q_ST l D cA cL yw cw aw ym cm am ad ad' o false g z g' z' f :=
  ⟨0, r', _, g2, z2, g3, z3, rm, by omega, hw, hrm, hm, h4, fun _ => by rw [he]; exact if_pos rfl, fun h => (by cases h), hR⟩
theorem q_bL (b : Bool) : q_L b = (q_b b).toInt64 := by cases b <;> decide +kernel
theorem st_okb {b b' : Bool} (hw : q_CL l yw cw rm_L D cA cL aw ((o, .inl (cL, 1, .inr (.inl f))) :: rlW cA ad g z) (nI 0) ((o, .inl (cL, 1, .inr (.inl (vp_updL f 0 (q_L b))))) :: rlW cA ad g2 z2))
    (hm : q_CI l ym cm rm D cA am (mdW cA ad' g' z') (q_b b') (mdW cA ad' g3 z3)) (hrm : rm.cells = 0 ∧ rm.slots = 0 ∧ rm.frames ≤ 8 ∧ rm.locals ≤ 139) (h4 : z3 4 = 0) (he : b' = b) (hR : rRel g2 z2 g3 z3) : q_ST l D cA cL yw cw aw ym cm am ad ad' o true g z g' z' f :=
  ⟨0, q_b b', _, g2, z2, g3, z3, rm, by omega, hw, hrm, hm, h4, fun _ => by rw [he, ← q_bL]; exact if_pos rfl, fun _ => q_b_or b', hR⟩
end ST
set_option maxRecDepth 100000 in
set_option maxHeartbeats 4000000 in
theorem st_seal (l : Launch) (htr : l.stackTraces = false) (D : va_G) (cA cL : ClassId) (ad ad' : Nat → Nat) (o : Nat) (f : Nat → Int64) (g : Nat → Nat → Int32) (z : Nat → Nat) (g' : Nat → Nat → Int32) (z' : Nat → Nat) (hR : rRel g z g' z') (p0 : Int32) (p1 : Int32) : q_ST l D cA cL yL_seal [Cond.codeWith yL_seal cL_seal 5 (some .int) [(0, 17, 20, 13), (0, 17, 24, 15)]] [.ref (ad 70), .int p0, .int p1, .ref o] yX6_seal [Cond.code yX6_seal cX6_seal 4 (some .boolean)] [.ref (ad' 80), .int p0, .int p1] ad ad' o true g z g' z' f := by
  obtain ⟨⟨⟨ez0, ez1, ez2⟩, ⟨e0, e1, e2, e3, e4, e5, e8, e9, e10, e11, e12, e14, e15, e16, e17, e22, e23⟩, h13⟩, hY, ⟨hP3, hP22, hP0, hP23, hz0, hz1, hz2⟩, ⟨hS9, hS10⟩, hC⟩ := hR
  have hR : rRel g z g' z' := ⟨⟨⟨ez0, ez1, ez2⟩, ⟨e0, e1, e2, e3, e4, e5, e8, e9, e10, e11, e12, e14, e15, e16, e17, e22, e23⟩, h13⟩, hY, ⟨hP3, hP22, hP0, hP23, hz0, hz1, hz2⟩, ⟨hS9, hS10⟩, hC⟩
  by_cases h1 : q_r p0 (z 0)
  · by_cases h2 : q_r p1 (z 0)
    · by_cases hne : p0 = p1
      · exact st_thr (k := 2) (by omega) (by omega) (wx_seal_iae l D cA cL ad g _ z _ o f p0 p1 _ ⟨rfl, rfl, Nat.le_of_ble_eq_true rfl, Nat.le_of_ble_eq_true rfl⟩ (c_X5_sealx3 l htr D cA ad g z p0 p1  h1 h2 hne hz0)) (c_X6_sealx3 l D cA ad' g' z' p0 p1  (by omega) (by rw [ez0]; exact h1) (by rw [ez0]; exact h2) hne) ⟨rfl, rfl, Nat.le_of_ble_eq_true rfl, Nat.le_of_ble_eq_true rfl⟩ rfl (rR_4 hR)
      · obtain ⟨i, hi, rfl⟩ := h1
        obtain ⟨j, hj, rfl⟩ := h2
        have hij : ¬ i = j := fun q => hne (by rw [q])
        exact st_okb (wo_seal l D cA cL ad g _ z _ o f (nI i) (nI j) _ _ ⟨rfl, rfl, Nat.le_of_ble_eq_true rfl, Nat.le_of_ble_eq_true rfl⟩ (c_X5_seal l D cA ad g z i j hi hj hz0 hij)) (c_X6_seal l D cA ad' g' z' i j (by omega) (by omega) (by omega) hij) ⟨rfl, rfl, Nat.le_of_ble_eq_true rfl, Nat.le_of_ble_eq_true rfl⟩ rfl (by rw [e9]) (⟨⟨⟨ez0, ez1, ez2⟩, ⟨e0, e1, e2, e3, e4, e5, e8, congrArg (fun q => tellF true q i j) e9, e10, e11, e12, e14, e15, e16, e17, e22, e23⟩, h13⟩, hY, ⟨hP3, hP22, hP0, hP23, hz0, hz1, hz2⟩, ⟨symB_t hS9 true (by omega) (by omega) hij, hS10⟩, hC⟩)
    · exact st_thr (k := 1) (by omega) (by omega) (wx_seal_iob l D cA cL ad g _ z _ o f p0 p1 _ ⟨rfl, rfl, Nat.le_of_ble_eq_true rfl, Nat.le_of_ble_eq_true rfl⟩ (c_X5_sealx2 l htr D cA ad g z p0 p1  h1 h2 hz0)) (c_X6_sealx l D cA ad' g' z' p0 p1  (by omega) (fun q => h2 (by rw [ez0] at q; exact q.2))) ⟨rfl, rfl, Nat.le_of_ble_eq_true rfl, Nat.le_of_ble_eq_true rfl⟩ rfl (rR_4 hR)
  · exact st_thr (k := 1) (by omega) (by omega) (wx_seal_iob l D cA cL ad g _ z _ o f p0 p1 _ ⟨rfl, rfl, Nat.le_of_ble_eq_true rfl, Nat.le_of_ble_eq_true rfl⟩ (c_X5_sealx l htr D cA ad g z p0 p1  h1 hz0)) (c_X6_sealx l D cA ad' g' z' p0 p1  (by omega) (fun q => h1 (by rw [ez0] at q; exact q.1))) ⟨rfl, rfl, Nat.le_of_ble_eq_true rfl, Nat.le_of_ble_eq_true rfl⟩ rfl (rR_4 hR)
set_option maxRecDepth 100000 in
set_option maxHeartbeats 4000000 in
theorem st_kin (l : Launch) (htr : l.stackTraces = false) (D : va_G) (cA cL : ClassId) (ad ad' : Nat → Nat) (o : Nat) (f : Nat → Int64) (g : Nat → Nat → Int32) (z : Nat → Nat) (g' : Nat → Nat → Int32) (z' : Nat → Nat) (hR : rRel g z g' z') (p0 : Int32) (p1 : Int32) : q_ST l D cA cL yL_kin [Cond.codeWith yL_kin cL_kin 5 (some .int) [(0, 17, 20, 13), (0, 17, 24, 15)]] [.ref (ad 70), .int p0, .int p1, .ref o] yX6_kin [Cond.code yX6_kin cX6_kin 4 (some .boolean)] [.ref (ad' 80), .int p0, .int p1] ad ad' o true g z g' z' f := by
  obtain ⟨⟨⟨ez0, ez1, ez2⟩, ⟨e0, e1, e2, e3, e4, e5, e8, e9, e10, e11, e12, e14, e15, e16, e17, e22, e23⟩, h13⟩, hY, ⟨hP3, hP22, hP0, hP23, hz0, hz1, hz2⟩, ⟨hS9, hS10⟩, hC⟩ := hR
  have hR : rRel g z g' z' := ⟨⟨⟨ez0, ez1, ez2⟩, ⟨e0, e1, e2, e3, e4, e5, e8, e9, e10, e11, e12, e14, e15, e16, e17, e22, e23⟩, h13⟩, hY, ⟨hP3, hP22, hP0, hP23, hz0, hz1, hz2⟩, ⟨hS9, hS10⟩, hC⟩
  by_cases h1 : q_r p0 (z 0)
  · by_cases h2 : q_r p1 (z 0)
    · by_cases hne : p0 = p1
      · exact st_thr (k := 2) (by omega) (by omega) (wx_kin_iae l D cA cL ad g _ z _ o f p0 p1 _ ⟨rfl, rfl, Nat.le_of_ble_eq_true rfl, Nat.le_of_ble_eq_true rfl⟩ (c_X5_kinx3 l htr D cA ad g z p0 p1  h1 h2 hne hz0)) (c_X6_kinx3 l D cA ad' g' z' p0 p1  (by omega) (by rw [ez0]; exact h1) (by rw [ez0]; exact h2) hne) ⟨rfl, rfl, Nat.le_of_ble_eq_true rfl, Nat.le_of_ble_eq_true rfl⟩ rfl (rR_4 hR)
      · obtain ⟨i, hi, rfl⟩ := h1
        obtain ⟨j, hj, rfl⟩ := h2
        have hij : ¬ i = j := fun q => hne (by rw [q])
        exact st_okb (wo_kin l D cA cL ad g _ z _ o f (nI i) (nI j) _ _ ⟨rfl, rfl, Nat.le_of_ble_eq_true rfl, Nat.le_of_ble_eq_true rfl⟩ (c_X5_kin l D cA ad g z i j hi hj hz0 hij)) (c_X6_kin l D cA ad' g' z' i j (by omega) (by omega) (by omega) hij) ⟨rfl, rfl, Nat.le_of_ble_eq_true rfl, Nat.le_of_ble_eq_true rfl⟩ rfl (by rw [e11]) (⟨⟨⟨ez0, ez1, ez2⟩, ⟨e0, e1, e2, e3, e4, e5, e8, e9, e10, congrArg (fun q => tellF true q i j) e11, e12, e14, e15, e16, e17, e22, e23⟩, h13⟩, hY, ⟨hP3, hP22, hP0, hP23, hz0, hz1, hz2⟩, ⟨hS9, hS10⟩, hC⟩)
    · exact st_thr (k := 1) (by omega) (by omega) (wx_kin_iob l D cA cL ad g _ z _ o f p0 p1 _ ⟨rfl, rfl, Nat.le_of_ble_eq_true rfl, Nat.le_of_ble_eq_true rfl⟩ (c_X5_kinx2 l htr D cA ad g z p0 p1  h1 h2 hz0)) (c_X6_kinx l D cA ad' g' z' p0 p1  (by omega) (fun q => h2 (by rw [ez0] at q; exact q.2))) ⟨rfl, rfl, Nat.le_of_ble_eq_true rfl, Nat.le_of_ble_eq_true rfl⟩ rfl (rR_4 hR)
  · exact st_thr (k := 1) (by omega) (by omega) (wx_kin_iob l D cA cL ad g _ z _ o f p0 p1 _ ⟨rfl, rfl, Nat.le_of_ble_eq_true rfl, Nat.le_of_ble_eq_true rfl⟩ (c_X5_kinx l htr D cA ad g z p0 p1  h1 hz0)) (c_X6_kinx l D cA ad' g' z' p0 p1  (by omega) (fun q => h1 (by rw [ez0] at q; exact q.1))) ⟨rfl, rfl, Nat.le_of_ble_eq_true rfl, Nat.le_of_ble_eq_true rfl⟩ rfl (rR_4 hR)
set_option maxRecDepth 100000 in
set_option maxHeartbeats 4000000 in
theorem st_block (l : Launch) (htr : l.stackTraces = false) (D : va_G) (cA cL : ClassId) (ad ad' : Nat → Nat) (o : Nat) (f : Nat → Int64) (g : Nat → Nat → Int32) (z : Nat → Nat) (g' : Nat → Nat → Int32) (z' : Nat → Nat) (hR : rRel g z g' z') (p0 : Int32) (p1 : Int32) (b2 : Bool) : q_ST l D cA cL yL_block [Cond.codeWith yL_block cL_block 6 (some .int) [(0, 19, 22, 13), (0, 19, 26, 15)]] [.ref (ad 70), .int p0, .int p1, .int (q_b b2), .ref o] yX6_block [Cond.code yX6_block cX6_block 5 (some .boolean)] [.ref (ad' 80), .int p0, .int p1, .int (q_b b2)] ad ad' o true g z g' z' f := by
  obtain ⟨⟨⟨ez0, ez1, ez2⟩, ⟨e0, e1, e2, e3, e4, e5, e8, e9, e10, e11, e12, e14, e15, e16, e17, e22, e23⟩, h13⟩, hY, ⟨hP3, hP22, hP0, hP23, hz0, hz1, hz2⟩, ⟨hS9, hS10⟩, hC⟩ := hR
  have hR : rRel g z g' z' := ⟨⟨⟨ez0, ez1, ez2⟩, ⟨e0, e1, e2, e3, e4, e5, e8, e9, e10, e11, e12, e14, e15, e16, e17, e22, e23⟩, h13⟩, hY, ⟨hP3, hP22, hP0, hP23, hz0, hz1, hz2⟩, ⟨hS9, hS10⟩, hC⟩
  by_cases h1 : q_r p0 (z 0)
  · by_cases h2 : q_r p1 (z 0)
    · by_cases hne : p0 = p1
      · exact st_thr (k := 2) (by omega) (by omega) (wx_block_iae l D cA cL ad g _ z _ o f p0 p1 (q_b b2) _ ⟨rfl, rfl, Nat.le_of_ble_eq_true rfl, Nat.le_of_ble_eq_true rfl⟩ (c_X5_blockx3 l htr D cA ad g z p0 p1 b2 h1 h2 hne hz0)) (c_X6_blockx3 l D cA ad' g' z' p0 p1 b2 (by omega) (by rw [ez0]; exact h1) (by rw [ez0]; exact h2) hne) ⟨rfl, rfl, Nat.le_of_ble_eq_true rfl, Nat.le_of_ble_eq_true rfl⟩ rfl (rR_4 hR)
      · obtain ⟨i, hi, rfl⟩ := h1
        obtain ⟨j, hj, rfl⟩ := h2
        have hij : ¬ i = j := fun q => hne (by rw [q])
        exact st_okb (wo_block l D cA cL ad g _ z _ o f (nI i) (nI j) (q_b b2) _ _ ⟨rfl, rfl, Nat.le_of_ble_eq_true rfl, Nat.le_of_ble_eq_true rfl⟩ (c_X5_block l D cA ad g z i j b2 hi hj hz0 hij)) (c_X6_block l D cA ad' g' z' i j b2 (by omega) (by omega) (by omega) hij) ⟨rfl, rfl, Nat.le_of_ble_eq_true rfl, Nat.le_of_ble_eq_true rfl⟩ rfl (by rw [e10]) (⟨⟨⟨ez0, ez1, ez2⟩, ⟨e0, e1, e2, e3, e4, e5, e8, e9, congrArg (fun q => tellF b2 q i j) e10, e11, e12, e14, e15, e16, e17, e22, e23⟩, h13⟩, hY, ⟨hP3, hP22, hP0, hP23, hz0, hz1, hz2⟩, ⟨hS9, symB_t hS10 b2 (by omega) (by omega) hij⟩, hC⟩)
    · exact st_thr (k := 1) (by omega) (by omega) (wx_block_iob l D cA cL ad g _ z _ o f p0 p1 (q_b b2) _ ⟨rfl, rfl, Nat.le_of_ble_eq_true rfl, Nat.le_of_ble_eq_true rfl⟩ (c_X5_blockx2 l htr D cA ad g z p0 p1 b2 h1 h2 hz0)) (c_X6_blockx l D cA ad' g' z' p0 p1 b2 (by omega) (fun q => h2 (by rw [ez0] at q; exact q.2))) ⟨rfl, rfl, Nat.le_of_ble_eq_true rfl, Nat.le_of_ble_eq_true rfl⟩ rfl (rR_4 hR)
  · exact st_thr (k := 1) (by omega) (by omega) (wx_block_iob l D cA cL ad g _ z _ o f p0 p1 (q_b b2) _ ⟨rfl, rfl, Nat.le_of_ble_eq_true rfl, Nat.le_of_ble_eq_true rfl⟩ (c_X5_blockx l htr D cA ad g z p0 p1 b2 h1 hz0)) (c_X6_blockx l D cA ad' g' z' p0 p1 b2 (by omega) (fun q => h1 (by rw [ez0] at q; exact q.1))) ⟨rfl, rfl, Nat.le_of_ble_eq_true rfl, Nat.le_of_ble_eq_true rfl⟩ rfl (rR_4 hR)
set_option maxRecDepth 100000 in
set_option maxHeartbeats 4000000 in
theorem st_weight (l : Launch) (htr : l.stackTraces = false) (D : va_G) (cA cL : ClassId) (ad ad' : Nat → Nat) (o : Nat) (f : Nat → Int64) (g : Nat → Nat → Int32) (z : Nat → Nat) (g' : Nat → Nat → Int32) (z' : Nat → Nat) (hR : rRel g z g' z') (p0 : Int32) (p1 : Int32) : q_ST l D cA cL yL_weight [Cond.codeWith yL_weight cL_weight 5 (some .int) [(0, 10, 13, 13), (0, 10, 17, 15)]] [.ref (ad 70), .int p0, .int p1, .ref o] yX6_weight [Cond.code yX6_weight cX6_weight 3 (some .int)] [.ref (ad' 80), .int p0, .int p1] ad ad' o false g z g' z' f := by
  obtain ⟨⟨⟨ez0, ez1, ez2⟩, ⟨e0, e1, e2, e3, e4, e5, e8, e9, e10, e11, e12, e14, e15, e16, e17, e22, e23⟩, h13⟩, hY, ⟨hP3, hP22, hP0, hP23, hz0, hz1, hz2⟩, ⟨hS9, hS10⟩, hC⟩ := hR
  have hR : rRel g z g' z' := ⟨⟨⟨ez0, ez1, ez2⟩, ⟨e0, e1, e2, e3, e4, e5, e8, e9, e10, e11, e12, e14, e15, e16, e17, e22, e23⟩, h13⟩, hY, ⟨hP3, hP22, hP0, hP23, hz0, hz1, hz2⟩, ⟨hS9, hS10⟩, hC⟩
  by_cases h1 : q_r p0 (z 0)
  · by_cases h2 : q_r p1 (z 0)
    · by_cases hne : p0 = p1
      · exact st_thr (k := 2) (by omega) (by omega) (wx_weight_iae l D cA cL ad g _ z _ o f p0 p1 _ ⟨rfl, rfl, Nat.le_of_ble_eq_true rfl, Nat.le_of_ble_eq_true rfl⟩ (c_X5_weightx3 l htr D cA ad g z p0 p1  h1 h2 hne hz0)) (c_X6_weightx3 l D cA ad' g' z' p0 p1  (by omega) (by rw [ez0]; exact h1) (by rw [ez0]; exact h2) hne) ⟨rfl, rfl, Nat.le_of_ble_eq_true rfl, Nat.le_of_ble_eq_true rfl⟩ rfl (rR_4 hR)
      · obtain ⟨i, hi, rfl⟩ := h1
        obtain ⟨j, hj, rfl⟩ := h2
        have hij : ¬ i = j := fun q => hne (by rw [q])
        exact st_ok (wo_weight l D cA cL ad g _ z _ o f (nI i) (nI j) _ _ ⟨rfl, rfl, Nat.le_of_ble_eq_true rfl, Nat.le_of_ble_eq_true rfl⟩ (c_X5_weight l D cA ad g z i j hi hj hz0 hij)) (c_X6_weight l D cA ad' g' z' i j (by omega) (by omega) (by omega) hij) ⟨rfl, rfl, Nat.le_of_ble_eq_true rfl, Nat.le_of_ble_eq_true rfl⟩ rfl (congrArg nI (wtN_cg e0 e1 e2 e3 e9)) (rR_4 hR)
    · exact st_thr (k := 1) (by omega) (by omega) (wx_weight_iob l D cA cL ad g _ z _ o f p0 p1 _ ⟨rfl, rfl, Nat.le_of_ble_eq_true rfl, Nat.le_of_ble_eq_true rfl⟩ (c_X5_weightx2 l htr D cA ad g z p0 p1  h1 h2 hz0)) (c_X6_weightx l D cA ad' g' z' p0 p1  (by omega) (fun q => h2 (by rw [ez0] at q; exact q.2))) ⟨rfl, rfl, Nat.le_of_ble_eq_true rfl, Nat.le_of_ble_eq_true rfl⟩ rfl (rR_4 hR)
  · exact st_thr (k := 1) (by omega) (by omega) (wx_weight_iob l D cA cL ad g _ z _ o f p0 p1 _ ⟨rfl, rfl, Nat.le_of_ble_eq_true rfl, Nat.le_of_ble_eq_true rfl⟩ (c_X5_weightx l htr D cA ad g z p0 p1  h1 hz0)) (c_X6_weightx l D cA ad' g' z' p0 p1  (by omega) (fun q => h1 (by rw [ez0] at q; exact q.1))) ⟨rfl, rfl, Nat.le_of_ble_eq_true rfl, Nat.le_of_ble_eq_true rfl⟩ rfl (rR_4 hR)
set_option maxRecDepth 100000 in
set_option maxHeartbeats 4000000 in
theorem st_whyNot (l : Launch) (htr : l.stackTraces = false) (D : va_G) (cA cL : ClassId) (ad ad' : Nat → Nat) (o : Nat) (f : Nat → Int64) (g : Nat → Nat → Int32) (z : Nat → Nat) (g' : Nat → Nat → Int32) (z' : Nat → Nat) (hR : rRel g z g' z') (p0 : Int32) (p1 : Int32) : q_ST l D cA cL yL_whyNot [Cond.codeWith yL_whyNot cL_whyNot 5 (some .int) [(0, 10, 13, 13), (0, 10, 17, 15)]] [.ref (ad 70), .int p0, .int p1, .ref o] yX6_whyNot [Cond.code yX6_whyNot cX6_whyNot 3 (some .int)] [.ref (ad' 80), .int p0, .int p1] ad ad' o false g z g' z' f := by
  obtain ⟨⟨⟨ez0, ez1, ez2⟩, ⟨e0, e1, e2, e3, e4, e5, e8, e9, e10, e11, e12, e14, e15, e16, e17, e22, e23⟩, h13⟩, hY, ⟨hP3, hP22, hP0, hP23, hz0, hz1, hz2⟩, ⟨hS9, hS10⟩, hC⟩ := hR
  have hR : rRel g z g' z' := ⟨⟨⟨ez0, ez1, ez2⟩, ⟨e0, e1, e2, e3, e4, e5, e8, e9, e10, e11, e12, e14, e15, e16, e17, e22, e23⟩, h13⟩, hY, ⟨hP3, hP22, hP0, hP23, hz0, hz1, hz2⟩, ⟨hS9, hS10⟩, hC⟩
  by_cases h1 : q_r p0 (z 0)
  · by_cases h2 : q_r p1 (z 0)
    · by_cases hne : p0 = p1
      · exact st_thr (k := 2) (by omega) (by omega) (wx_whyNot_iae l D cA cL ad g _ z _ o f p0 p1 _ ⟨rfl, rfl, Nat.le_of_ble_eq_true rfl, Nat.le_of_ble_eq_true rfl⟩ (c_X5_whyNotx3 l htr D cA ad g z p0 p1  h1 h2 hne hz0)) (c_X6_whyNotx3 l D cA ad' g' z' p0 p1  (by omega) (by rw [ez0]; exact h1) (by rw [ez0]; exact h2) hne) ⟨rfl, rfl, Nat.le_of_ble_eq_true rfl, Nat.le_of_ble_eq_true rfl⟩ rfl (rR_4 hR)
      · obtain ⟨i, hi, rfl⟩ := h1
        obtain ⟨j, hj, rfl⟩ := h2
        have hij : ¬ i = j := fun q => hne (by rw [q])
        exact st_ok (wo_whyNot l D cA cL ad g _ z _ o f (nI i) (nI j) _ _ ⟨rfl, rfl, Nat.le_of_ble_eq_true rfl, Nat.le_of_ble_eq_true rfl⟩ (c_X5_whyNot l D cA ad g z i j hi hj hz0 hij)) (c_X6_whyNot l D cA ad' g' z' i j (by omega) (by omega) (by omega) hij (fun k hk => by rw [e3]; exact hP3 k (by omega))) ⟨rfl, rfl, Nat.le_of_ble_eq_true rfl, Nat.le_of_ble_eq_true rfl⟩ rfl (by rw [ez0, rsN_cg hR.1, raG_rs]) (rR_4 hR)
    · exact st_thr (k := 1) (by omega) (by omega) (wx_whyNot_iob l D cA cL ad g _ z _ o f p0 p1 _ ⟨rfl, rfl, Nat.le_of_ble_eq_true rfl, Nat.le_of_ble_eq_true rfl⟩ (c_X5_whyNotx2 l htr D cA ad g z p0 p1  h1 h2 hz0)) (c_X6_whyNotx l D cA ad' g' z' p0 p1  (by omega) (fun q => h2 (by rw [ez0] at q; exact q.2))) ⟨rfl, rfl, Nat.le_of_ble_eq_true rfl, Nat.le_of_ble_eq_true rfl⟩ rfl (rR_4 hR)
  · exact st_thr (k := 1) (by omega) (by omega) (wx_whyNot_iob l D cA cL ad g _ z _ o f p0 p1 _ ⟨rfl, rfl, Nat.le_of_ble_eq_true rfl, Nat.le_of_ble_eq_true rfl⟩ (c_X5_whyNotx l htr D cA ad g z p0 p1  h1 hz0)) (c_X6_whyNotx l D cA ad' g' z' p0 p1  (by omega) (fun q => h1 (by rw [ez0] at q; exact q.1))) ⟨rfl, rfl, Nat.le_of_ble_eq_true rfl, Nat.le_of_ble_eq_true rfl⟩ rfl (rR_4 hR)
set_option maxRecDepth 100000 in
set_option maxHeartbeats 4000000 in
theorem st_join (l : Launch) (htr : l.stackTraces = false) (D : va_G) (cA cL : ClassId) (ad ad' : Nat → Nat) (o : Nat) (f : Nat → Int64) (g : Nat → Nat → Int32) (z : Nat → Nat) (g' : Nat → Nat → Int32) (z' : Nat → Nat) (hR : rRel g z g' z') (p0 : Int32) (p1 : Int32) : q_ST l D cA cL yL_join [Cond.codeWith yL_join cL_join 5 (some .int) [(0, 10, 13, 13), (0, 10, 17, 15), (0, 10, 21, 17)]] [.ref (ad 70), .int p0, .int p1, .ref o] yX6_join [Cond.code yX6_join cX6_join 8 (some .int)] [.ref (ad' 80), .int p0, .int p1] ad ad' o false g z g' z' f := by
  obtain ⟨⟨⟨ez0, ez1, ez2⟩, ⟨e0, e1, e2, e3, e4, e5, e8, e9, e10, e11, e12, e14, e15, e16, e17, e22, e23⟩, h13⟩, hY, ⟨hP3, hP22, hP0, hP23, hz0, hz1, hz2⟩, ⟨hS9, hS10⟩, hC⟩ := hR
  have hR : rRel g z g' z' := ⟨⟨⟨ez0, ez1, ez2⟩, ⟨e0, e1, e2, e3, e4, e5, e8, e9, e10, e11, e12, e14, e15, e16, e17, e22, e23⟩, h13⟩, hY, ⟨hP3, hP22, hP0, hP23, hz0, hz1, hz2⟩, ⟨hS9, hS10⟩, hC⟩
  by_cases h1 : q_r p0 (z 0)
  · by_cases h2 : q_r p1 (z 0)
    · by_cases hne : p0 = p1
      · exact st_thr (k := 2) (by omega) (by omega) (wx_join_iae l D cA cL ad g _ z _ o f p0 p1 _ ⟨rfl, rfl, Nat.le_of_ble_eq_true rfl, Nat.le_of_ble_eq_true rfl⟩ (c_X5_joinx3 l htr D cA ad g z p0 p1  h1 h2 hne hz0)) (c_X6_joinx3 l D cA ad' g' z' p0 p1  (by omega) (by rw [ez0]; exact h1) (by rw [ez0]; exact h2) hne) ⟨rfl, rfl, Nat.le_of_ble_eq_true rfl, Nat.le_of_ble_eq_true rfl⟩ rfl (rR_4 hR)
      · obtain ⟨i, hi, rfl⟩ := h1
        obtain ⟨j, hj, rfl⟩ := h2
        have hij : ¬ i = j := fun q => hne (by rw [q])
        have hrs : rsN g' (z' 0) i j = raG g (z 0) i j := by rw [ez0, rsN_cg hR.1, raG_rs]
        by_cases hra : raG g (z 0) i j = 0
        · have hne2 : ¬ g 22 i = g 22 j := fun q => by rw [raG, if_pos q] at hra; omega
          have q1 := hP22 i hi
          have q2 := hP22 j hj
          have l1 := q1.lt (by omega)
          have l2 := q2.lt (by omega)
          have n12 : ¬ q_n (g 22 i) = q_n (g 22 j) := fun q => hne2 (by rw [q1.eq (by omega), q2.eq (by omega), q])
          obtain ⟨mi, hmi⟩ : ∃ y, y = min (q_n (g 22 i)) (q_n (g 22 j)) := ⟨_, rfl⟩
          obtain ⟨ma, hma⟩ : ∃ y, y = max (q_n (g 22 i)) (q_n (g 22 j)) := ⟨_, rfl⟩
          have hmm : mi < z 2 ∧ 0 < ma ∧ ma < z 2 := by rw [hmi, hma, Nat.min_def, Nat.max_def]; split <;> omega
          have er : ∀ (q : Nat → Int32) n, (∀ k, k < n → q_r (q k) (z 2)) → ∀ k, k < n → q_r (repl q (nI ma) (nI mi) n k) (z 2) := fun q n hq k hk => by
            show q_r (if k < n ∧ q k = nI ma then nI mi else q k) (z 2)
            split
            · exact q_r_nI hmm.1
            · exact hq k hk
          have nz : ∀ k, z 0 ≤ k → ¬ g 22 k = nI ma := fun k hk q => by
            rw [hP0 k hk] at q
            have := (nI_eq (by omega) (by omega)).1 q
            omega
          have e16n : repl (g 22) (nI ma) (nI mi) 16 = repl (g 22) (nI ma) (nI mi) (z 0) := by
            funext k
            show (if k < 16 ∧ g 22 k = nI ma then nI mi else g 22 k) = (if k < z 0 ∧ g 22 k = nI ma then nI mi else g 22 k)
            by_cases c : k < z 0
            · by_cases d : g 22 k = nI ma
              · rw [if_pos ⟨by omega, d⟩, if_pos ⟨c, d⟩]
              · rw [if_neg (fun q => d q.2), if_neg (fun q => d q.2)]
            · rw [if_neg (fun q => nz k (by omega) q.2), if_neg (fun q => c q.1)]
          have c5 := c_X5_join l D cA ad g z i j hi hj hz0 hij hra (fun k hk => q_r_mono (hP22 k hk) hz2) hz2
          have c6 := c_X6_join l D cA ad' g' z' i j (by omega) (by omega) (by omega) hij (fun k hk => by rw [e3]; exact hP3 k (by omega)) (hrs.trans hra) (fun k hk => by rw [e22]; exact q_r_mono (hP22 k (by omega)) hz2) (by omega)
          rw [← hmi, ← hma, e16n] at c5
          rw [e22, e23, ez0, ez2, ← hmi, ← hma] at c6
          exact st_ok (wo_join l D cA cL ad g _ z _ o f (nI i) (nI j) _ _ ⟨rfl, rfl, Nat.le_of_ble_eq_true rfl, Nat.le_of_ble_eq_true rfl⟩ c5) c6 ⟨rfl, rfl, Nat.le_of_ble_eq_true rfl, Nat.le_of_ble_eq_true rfl⟩ rfl rfl (⟨⟨⟨ez0, ez1, ez2⟩, ⟨e0, e1, e2, e3, e4, e5, e8, e9, e10, e11, e12, e14, e15, e16, e17, rfl, rfl⟩, h13⟩, hY, ⟨hP3, er (g 22) (z 0) hP22, (fun k hk => (if_neg (fun q => by omega)).trans (hP0 k hk)), er (g 23) (z 2) hP23, hz0, hz1, hz2⟩, ⟨hS9, hS10⟩, hC⟩)
        · exact st_thr (k := 3) (by omega) (by omega) (wx_join_ise l D cA cL ad g _ z _ o f (nI i) (nI j) _ ⟨rfl, rfl, Nat.le_of_ble_eq_true rfl, Nat.le_of_ble_eq_true rfl⟩ (c_X5_joinx4 l htr D cA ad g z i j hi hj hz0 hij hra)) (c_X6_joinx4 l D cA ad' g' z' i j (by omega) (by omega) (by omega) hij (fun k hk => by rw [e3]; exact hP3 k (by omega)) (fun q => hra (hrs.symm.trans q))) ⟨rfl, rfl, Nat.le_of_ble_eq_true rfl, Nat.le_of_ble_eq_true rfl⟩ rfl (rR_4 hR)
    · exact st_thr (k := 1) (by omega) (by omega) (wx_join_iob l D cA cL ad g _ z _ o f p0 p1 _ ⟨rfl, rfl, Nat.le_of_ble_eq_true rfl, Nat.le_of_ble_eq_true rfl⟩ (c_X5_joinx2 l htr D cA ad g z p0 p1  h1 h2 hz0)) (c_X6_joinx l D cA ad' g' z' p0 p1  (by omega) (fun q => h2 (by rw [ez0] at q; exact q.2))) ⟨rfl, rfl, Nat.le_of_ble_eq_true rfl, Nat.le_of_ble_eq_true rfl⟩ rfl (rR_4 hR)
  · exact st_thr (k := 1) (by omega) (by omega) (wx_join_iob l D cA cL ad g _ z _ o f p0 p1 _ ⟨rfl, rfl, Nat.le_of_ble_eq_true rfl, Nat.le_of_ble_eq_true rfl⟩ (c_X5_joinx l htr D cA ad g z p0 p1  h1 hz0)) (c_X6_joinx l D cA ad' g' z' p0 p1  (by omega) (fun q => h1 (by rw [ez0] at q; exact q.1))) ⟨rfl, rfl, Nat.le_of_ble_eq_true rfl, Nat.le_of_ble_eq_true rfl⟩ rfl (rR_4 hR)
set_option maxRecDepth 100000 in
set_option maxHeartbeats 4000000 in
theorem st_rank (l : Launch) (htr : l.stackTraces = false) (D : va_G) (cA cL : ClassId) (ad ad' : Nat → Nat) (o : Nat) (f : Nat → Int64) (g : Nat → Nat → Int32) (z : Nat → Nat) (g' : Nat → Nat → Int32) (z' : Nat → Nat) (hR : rRel g z g' z') (p0 : Int32) (p1 : Int32) : q_ST l D cA cL yL_rank [Cond.codeWith yL_rank cL_rank 5 (some .int) [(0, 10, 13, 13), (0, 10, 17, 15)]] [.ref (ad 70), .int p0, .int p1, .ref o] yX6_rank [Cond.code yX6_rank cX6_rank 4 (some .int)] [.ref (ad' 80), .int p0, .int p1] ad ad' o false g z g' z' f := by
  obtain ⟨⟨⟨ez0, ez1, ez2⟩, ⟨e0, e1, e2, e3, e4, e5, e8, e9, e10, e11, e12, e14, e15, e16, e17, e22, e23⟩, h13⟩, hY, ⟨hP3, hP22, hP0, hP23, hz0, hz1, hz2⟩, ⟨hS9, hS10⟩, hC⟩ := hR
  have hR : rRel g z g' z' := ⟨⟨⟨ez0, ez1, ez2⟩, ⟨e0, e1, e2, e3, e4, e5, e8, e9, e10, e11, e12, e14, e15, e16, e17, e22, e23⟩, h13⟩, hY, ⟨hP3, hP22, hP0, hP23, hz0, hz1, hz2⟩, ⟨hS9, hS10⟩, hC⟩
  by_cases h1 : q_r p0 8
  · by_cases h2 : ¬ p1 < nI 0 ∧ p1 ≤ nI 9
    · obtain ⟨i, hi, rfl⟩ := h1
      exact st_ok (wo_rank l D cA cL ad g _ z _ o f (nI i) p1 _ _ ⟨rfl, rfl, Nat.le_of_ble_eq_true rfl, Nat.le_of_ble_eq_true rfl⟩ (c_X5_rank l D cA ad g z i p1 hi h2)) (c_X6_rank l D cA ad' g' z' i p1 hi h2) ⟨rfl, rfl, Nat.le_of_ble_eq_true rfl, Nat.le_of_ble_eq_true rfl⟩ rfl (by rw [e5]) (⟨⟨⟨ez0, ez1, ez2⟩, ⟨e0, e1, e2, e3, e4, congrArg (fun q => upd q i p1) e5, e8, e9, e10, e11, e12, e14, e15, e16, e17, e22, e23⟩, h13⟩, hY, ⟨hP3, hP22, hP0, hP23, hz0, hz1, hz2⟩, ⟨hS9, hS10⟩, hC⟩)
    · exact st_thr (k := 2) (by omega) (by omega) (wx_rank_iae l D cA cL ad g _ z _ o f p0 p1 _ ⟨rfl, rfl, Nat.le_of_ble_eq_true rfl, Nat.le_of_ble_eq_true rfl⟩ (c_X5_rankx2 l htr D cA ad g z p0 p1 h1 h2)) (c_X6_rankx2 l D cA ad' g' z' p0 p1 h1 h2) ⟨rfl, rfl, Nat.le_of_ble_eq_true rfl, Nat.le_of_ble_eq_true rfl⟩ rfl (rR_4 hR)
  · exact st_thr (k := 1) (by omega) (by omega) (wx_rank_iob l D cA cL ad g _ z _ o f p0 p1 _ ⟨rfl, rfl, Nat.le_of_ble_eq_true rfl, Nat.le_of_ble_eq_true rfl⟩ (c_X5_rankx l htr D cA ad g z p0 p1 h1)) (c_X6_rankx l D cA ad' g' z' p0 p1 h1) ⟨rfl, rfl, Nat.le_of_ble_eq_true rfl, Nat.le_of_ble_eq_true rfl⟩ rfl (rR_4 hR)
set_option maxRecDepth 100000 in
set_option maxHeartbeats 4000000 in
theorem st_bar (l : Launch) (htr : l.stackTraces = false) (D : va_G) (cA cL : ClassId) (ad ad' : Nat → Nat) (o : Nat) (f : Nat → Int64) (g : Nat → Nat → Int32) (z : Nat → Nat) (g' : Nat → Nat → Int32) (z' : Nat → Nat) (hR : rRel g z g' z') (p0 : Int32) (p1 : Int32) (b2 : Bool) : q_ST l D cA cL yL_bar [Cond.codeWith yL_bar cL_bar 6 (some .int) [(0, 19, 22, 13), (0, 19, 26, 15)]] [.ref (ad 70), .int p0, .int p1, .int (q_b b2), .ref o] yX6_bar [Cond.code yX6_bar cX6_bar 5 (some .boolean)] [.ref (ad' 80), .int p0, .int p1, .int (q_b b2)] ad ad' o true g z g' z' f := by
  obtain ⟨⟨⟨ez0, ez1, ez2⟩, ⟨e0, e1, e2, e3, e4, e5, e8, e9, e10, e11, e12, e14, e15, e16, e17, e22, e23⟩, h13⟩, hY, ⟨hP3, hP22, hP0, hP23, hz0, hz1, hz2⟩, ⟨hS9, hS10⟩, hC⟩ := hR
  have hR : rRel g z g' z' := ⟨⟨⟨ez0, ez1, ez2⟩, ⟨e0, e1, e2, e3, e4, e5, e8, e9, e10, e11, e12, e14, e15, e16, e17, e22, e23⟩, h13⟩, hY, ⟨hP3, hP22, hP0, hP23, hz0, hz1, hz2⟩, ⟨hS9, hS10⟩, hC⟩
  by_cases h1 : q_r p0 8
  · by_cases h2 : q_r p1 8
    · by_cases hne : p0 = p1
      · exact st_thr (k := 2) (by omega) (by omega) (wx_bar_iae l D cA cL ad g _ z _ o f p0 p1 (q_b b2) _ ⟨rfl, rfl, Nat.le_of_ble_eq_true rfl, Nat.le_of_ble_eq_true rfl⟩ (c_X5_barx3 l htr D cA ad g z p0 p1 b2 h1 h2 hne)) (c_X6_barx3 l D cA ad' g' z' p0 p1 b2 h1 h2 hne) ⟨rfl, rfl, Nat.le_of_ble_eq_true rfl, Nat.le_of_ble_eq_true rfl⟩ rfl (rR_4 hR)
      · obtain ⟨i, hi, rfl⟩ := h1
        obtain ⟨j, hj, rfl⟩ := h2
        have hij : ¬ i = j := fun q => hne (by rw [q])
        exact st_okb (wo_bar l D cA cL ad g _ z _ o f (nI i) (nI j) (q_b b2) _ _ ⟨rfl, rfl, Nat.le_of_ble_eq_true rfl, Nat.le_of_ble_eq_true rfl⟩ (c_X5_bar l D cA ad g z i j b2 hi hj hij)) (c_X6_bar l D cA ad' g' z' i j b2 hi hj hij) ⟨rfl, rfl, Nat.le_of_ble_eq_true rfl, Nat.le_of_ble_eq_true rfl⟩ rfl (by rw [e8]) (⟨⟨⟨ez0, ez1, ez2⟩, ⟨e0, e1, e2, e3, e4, e5, congrArg (fun q => tellF b2 q i j) e8, e9, e10, e11, e12, e14, e15, e16, e17, e22, e23⟩, h13⟩, hY, ⟨hP3, hP22, hP0, hP23, hz0, hz1, hz2⟩, ⟨hS9, hS10⟩, hC⟩)
    · exact st_thr (k := 1) (by omega) (by omega) (wx_bar_iob l D cA cL ad g _ z _ o f p0 p1 (q_b b2) _ ⟨rfl, rfl, Nat.le_of_ble_eq_true rfl, Nat.le_of_ble_eq_true rfl⟩ (c_X5_barx2 l htr D cA ad g z p0 p1 b2 h1 h2)) (c_X6_barx l D cA ad' g' z' p0 p1 b2 (fun q => h2 q.2)) ⟨rfl, rfl, Nat.le_of_ble_eq_true rfl, Nat.le_of_ble_eq_true rfl⟩ rfl (rR_4 hR)
  · exact st_thr (k := 1) (by omega) (by omega) (wx_bar_iob l D cA cL ad g _ z _ o f p0 p1 (q_b b2) _ ⟨rfl, rfl, Nat.le_of_ble_eq_true rfl, Nat.le_of_ble_eq_true rfl⟩ (c_X5_barx l htr D cA ad g z p0 p1 b2 h1)) (c_X6_barx l D cA ad' g' z' p0 p1 b2 (fun q => h1 q.1)) ⟨rfl, rfl, Nat.le_of_ble_eq_true rfl, Nat.le_of_ble_eq_true rfl⟩ rfl (rR_4 hR)
set_option maxRecDepth 100000 in
set_option maxHeartbeats 4000000 in
theorem st_rival (l : Launch) (htr : l.stackTraces = false) (D : va_G) (cA cL : ClassId) (ad ad' : Nat → Nat) (o : Nat) (f : Nat → Int64) (g : Nat → Nat → Int32) (z : Nat → Nat) (g' : Nat → Nat → Int32) (z' : Nat → Nat) (hR : rRel g z g' z') (p0 : Int32) (p1 : Int32) : q_ST l D cA cL yL_rival [Cond.codeWith yL_rival cL_rival 5 (some .int) [(0, 10, 13, 13), (0, 10, 17, 15)]] [.ref (ad 70), .int p0, .int p1, .ref o] yX6_rival [Cond.code yX6_rival cX6_rival 4 (some .int)] [.ref (ad' 80), .int p0, .int p1] ad ad' o false g z g' z' f := by
  obtain ⟨⟨⟨ez0, ez1, ez2⟩, ⟨e0, e1, e2, e3, e4, e5, e8, e9, e10, e11, e12, e14, e15, e16, e17, e22, e23⟩, h13⟩, hY, ⟨hP3, hP22, hP0, hP23, hz0, hz1, hz2⟩, ⟨hS9, hS10⟩, hC⟩ := hR
  have hR : rRel g z g' z' := ⟨⟨⟨ez0, ez1, ez2⟩, ⟨e0, e1, e2, e3, e4, e5, e8, e9, e10, e11, e12, e14, e15, e16, e17, e22, e23⟩, h13⟩, hY, ⟨hP3, hP22, hP0, hP23, hz0, hz1, hz2⟩, ⟨hS9, hS10⟩, hC⟩
  by_cases h1 : q_r p0 (z 0)
  · by_cases h2 : ¬ p1 < (-1) ∧ p1 ≤ nI 15
    · obtain ⟨i, hi, rfl⟩ := h1
      exact st_ok (wo_rival l D cA cL ad g _ z _ o f (nI i) p1 _ _ ⟨rfl, rfl, Nat.le_of_ble_eq_true rfl, Nat.le_of_ble_eq_true rfl⟩ (c_X5_rival l D cA ad g z i p1 hi hz0 h2)) (c_X6_rival l D cA ad' g' z' i p1 (by omega) (by omega) h2) ⟨rfl, rfl, Nat.le_of_ble_eq_true rfl, Nat.le_of_ble_eq_true rfl⟩ rfl (by rw [e4]) (⟨⟨⟨ez0, ez1, ez2⟩, ⟨e0, e1, e2, e3, congrArg (fun q => upd q i p1) e4, e5, e8, e9, e10, e11, e12, e14, e15, e16, e17, e22, e23⟩, h13⟩, hY, ⟨hP3, hP22, hP0, hP23, hz0, hz1, hz2⟩, ⟨hS9, hS10⟩, hC⟩)
    · exact st_thr (k := 2) (by omega) (by omega) (wx_rival_iae l D cA cL ad g _ z _ o f p0 p1 _ ⟨rfl, rfl, Nat.le_of_ble_eq_true rfl, Nat.le_of_ble_eq_true rfl⟩ (c_X5_rivalx2 l htr D cA ad g z p0 p1 h1 hz0 h2)) (c_X6_rivalx2 l D cA ad' g' z' p0 p1 (by rw [ez0]; exact h1) (by omega) h2) ⟨rfl, rfl, Nat.le_of_ble_eq_true rfl, Nat.le_of_ble_eq_true rfl⟩ rfl (rR_4 hR)
  · exact st_thr (k := 1) (by omega) (by omega) (wx_rival_iob l D cA cL ad g _ z _ o f p0 p1 _ ⟨rfl, rfl, Nat.le_of_ble_eq_true rfl, Nat.le_of_ble_eq_true rfl⟩ (c_X5_rivalx l htr D cA ad g z p0 p1 h1 hz0)) (c_X6_rivalx l D cA ad' g' z' p0 p1 (fun q => h1 (by rw [ez0] at q; exact q)) (by omega)) ⟨rfl, rfl, Nat.le_of_ble_eq_true rfl, Nat.le_of_ble_eq_true rfl⟩ rfl (rR_4 hR)
set_option maxRecDepth 100000 in
set_option maxHeartbeats 4000000 in
theorem st_person (l : Launch) (htr : l.stackTraces = false) (D : va_G) (cA cL : ClassId) (ad ad' : Nat → Nat) (o : Nat) (f : Nat → Int64) (g : Nat → Nat → Int32) (z : Nat → Nat) (g' : Nat → Nat → Int32) (z' : Nat → Nat) (hR : rRel g z g' z') (p0 : Int32) : q_ST l D cA cL yL_person [Cond.codeWith yL_person cL_person 4 (some .int) [(0, 9, 12, 13)]] [.ref (ad 70), .int p0, .ref o] yX6_person [Cond.code yX6_person cX6_person 2 (some .int)] [.ref (ad' 80), .int p0] ad ad' o false g z g' z' f := by
  obtain ⟨⟨⟨ez0, ez1, ez2⟩, ⟨e0, e1, e2, e3, e4, e5, e8, e9, e10, e11, e12, e14, e15, e16, e17, e22, e23⟩, h13⟩, hY, ⟨hP3, hP22, hP0, hP23, hz0, hz1, hz2⟩, ⟨hS9, hS10⟩, hC⟩ := hR
  have hR : rRel g z g' z' := ⟨⟨⟨ez0, ez1, ez2⟩, ⟨e0, e1, e2, e3, e4, e5, e8, e9, e10, e11, e12, e14, e15, e16, e17, e22, e23⟩, h13⟩, hY, ⟨hP3, hP22, hP0, hP23, hz0, hz1, hz2⟩, ⟨hS9, hS10⟩, hC⟩
  by_cases h1 : q_r p0 (z 0)
  · obtain ⟨i, hi, rfl⟩ := h1
    exact st_ok (wo_person l D cA cL ad g _ z _ o f (nI i) _ _ ⟨rfl, rfl, Nat.le_of_ble_eq_true rfl, Nat.le_of_ble_eq_true rfl⟩ (c_X5_person l D cA ad g z i hi hz0)) (c_X6_person l D cA ad' g' z' i (by omega) (by omega)) ⟨rfl, rfl, Nat.le_of_ble_eq_true rfl, Nat.le_of_ble_eq_true rfl⟩ rfl (by rw [e22]) (rR_4 hR)
  · exact st_thr (k := 1) (by omega) (by omega) (wx_person_iob l D cA cL ad g _ z _ o f p0 _ ⟨rfl, rfl, Nat.le_of_ble_eq_true rfl, Nat.le_of_ble_eq_true rfl⟩ (c_X5_personx l htr D cA ad g z p0 h1 hz0)) (c_X6_personx l D cA ad' g' z' p0 (fun q => h1 (by rw [ez0] at q; exact q)) (by omega)) ⟨rfl, rfl, Nat.le_of_ble_eq_true rfl, Nat.le_of_ble_eq_true rfl⟩ rfl (rR_4 hR)
set_option maxRecDepth 100000 in
set_option maxHeartbeats 4000000 in
theorem st_entry (l : Launch) (htr : l.stackTraces = false) (D : va_G) (cA cL : ClassId) (ad ad' : Nat → Nat) (o : Nat) (f : Nat → Int64) (g : Nat → Nat → Int32) (z : Nat → Nat) (g' : Nat → Nat → Int32) (z' : Nat → Nat) (hR : rRel g z g' z') (p0 : Int32) : q_ST l D cA cL yL_entry [Cond.codeWith yL_entry cL_entry 4 (some .int) [(0, 9, 12, 13)]] [.ref (ad 70), .int p0, .ref o] yX6_entry [Cond.code yX6_entry cX6_entry 2 (some .int)] [.ref (ad' 80), .int p0] ad ad' o false g z g' z' f := by
  obtain ⟨⟨⟨ez0, ez1, ez2⟩, ⟨e0, e1, e2, e3, e4, e5, e8, e9, e10, e11, e12, e14, e15, e16, e17, e22, e23⟩, h13⟩, hY, ⟨hP3, hP22, hP0, hP23, hz0, hz1, hz2⟩, ⟨hS9, hS10⟩, hC⟩ := hR
  have hR : rRel g z g' z' := ⟨⟨⟨ez0, ez1, ez2⟩, ⟨e0, e1, e2, e3, e4, e5, e8, e9, e10, e11, e12, e14, e15, e16, e17, e22, e23⟩, h13⟩, hY, ⟨hP3, hP22, hP0, hP23, hz0, hz1, hz2⟩, ⟨hS9, hS10⟩, hC⟩
  by_cases h1 : q_r p0 (z 2)
  · obtain ⟨i, hi, rfl⟩ := h1
    exact st_ok (wo_entry l D cA cL ad g _ z _ o f (nI i) _ _ ⟨rfl, rfl, Nat.le_of_ble_eq_true rfl, Nat.le_of_ble_eq_true rfl⟩ (c_X5_entry l D cA ad g z i hi hz2)) (c_X6_entry l D cA ad' g' z' i (by omega) (by omega)) ⟨rfl, rfl, Nat.le_of_ble_eq_true rfl, Nat.le_of_ble_eq_true rfl⟩ rfl (by rw [e23]) (rR_4 hR)
  · exact st_thr (k := 1) (by omega) (by omega) (wx_entry_iob l D cA cL ad g _ z _ o f p0 _ ⟨rfl, rfl, Nat.le_of_ble_eq_true rfl, Nat.le_of_ble_eq_true rfl⟩ (c_X5_entryx l htr D cA ad g z p0 h1 hz2)) (c_X6_entryx l D cA ad' g' z' p0 (fun q => h1 (by rw [ez2] at q; exact q)) (by omega)) ⟨rfl, rfl, Nat.le_of_ble_eq_true rfl, Nat.le_of_ble_eq_true rfl⟩ rfl (rR_4 hR)
set_option maxRecDepth 100000 in
set_option maxHeartbeats 4000000 in
theorem st_size (l : Launch) (htr : l.stackTraces = false) (D : va_G) (cA cL : ClassId) (ad ad' : Nat → Nat) (o : Nat) (f : Nat → Int64) (g : Nat → Nat → Int32) (z : Nat → Nat) (g' : Nat → Nat → Int32) (z' : Nat → Nat) (hR : rRel g z g' z') (p0 : Int32) : q_ST l D cA cL yL_size [Cond.codeWith yL_size cL_size 4 (some .int) [(0, 9, 12, 13)]] [.ref (ad 70), .int p0, .ref o] yX6_size [Cond.code yX6_size cX6_size 2 (some .int)] [.ref (ad' 80), .int p0] ad ad' o false g z g' z' f := by
  obtain ⟨⟨⟨ez0, ez1, ez2⟩, ⟨e0, e1, e2, e3, e4, e5, e8, e9, e10, e11, e12, e14, e15, e16, e17, e22, e23⟩, h13⟩, hY, ⟨hP3, hP22, hP0, hP23, hz0, hz1, hz2⟩, ⟨hS9, hS10⟩, hC⟩ := hR
  have hR : rRel g z g' z' := ⟨⟨⟨ez0, ez1, ez2⟩, ⟨e0, e1, e2, e3, e4, e5, e8, e9, e10, e11, e12, e14, e15, e16, e17, e22, e23⟩, h13⟩, hY, ⟨hP3, hP22, hP0, hP23, hz0, hz1, hz2⟩, ⟨hS9, hS10⟩, hC⟩
  by_cases h1 : q_r p0 (z 2)
  · obtain ⟨i, hi, rfl⟩ := h1
    exact st_ok (wo_size l D cA cL ad g _ z _ o f (nI i) _ _ ⟨rfl, rfl, Nat.le_of_ble_eq_true rfl, Nat.le_of_ble_eq_true rfl⟩ (c_X5_size l D cA ad g z i hi hz2 hz0)) (c_X6_size l D cA ad' g' z' i (by omega) (by omega) (by omega)) ⟨rfl, rfl, Nat.le_of_ble_eq_true rfl, Nat.le_of_ble_eq_true rfl⟩ rfl (by rw [e22, e23, ez0]) (rR_4 hR)
  · exact st_thr (k := 1) (by omega) (by omega) (wx_size_iob l D cA cL ad g _ z _ o f p0 _ ⟨rfl, rfl, Nat.le_of_ble_eq_true rfl, Nat.le_of_ble_eq_true rfl⟩ (c_X5_sizex l htr D cA ad g z p0 h1 hz2)) (c_X6_sizex l D cA ad' g' z' p0 (fun q => h1 (by rw [ez2] at q; exact q)) (by omega)) ⟨rfl, rfl, Nat.le_of_ble_eq_true rfl, Nat.le_of_ble_eq_true rfl⟩ rfl (rR_4 hR)
