theorem cnt_pos {f : Nat → Int32} {w : Int32} {i : Nat} (h : f i = w) : ∀ n, i < n → 1 ≤ cntN f w n
  | 0, hi => by omega
  | n + 1, hi => by
    rw [cntN]
    by_cases e : i = n
    · subst e
      rw [if_pos h]; omega
    · have := cnt_pos h n (by omega)
      split <;> omega
theorem nI_0i : (nI 0).toInt = 0 := by decide +kernel
theorem nI_999i : (nI 999).toInt = 999 := by decide +kernel
/-- one mention more, bound to nothing -/
theorem rY_new {g : Nat → Nat → Int32} {z z2 : Nat → Nat} (h : rY g z) (h1 : z2 1 = z 1) (h0 : z2 0 = z 0 + 1) : rY g z2 := by
  unfold rY at *
  rw [h1, h0]
  obtain ⟨⟨hE, hw, hb⟩, ⟨X, x1, x2, x3⟩, hF, hL, hz, hq⟩ := h
  obtain ⟨a12, a13, a17, a18⟩ := hz (z 0) (Nat.le_refl _)
  have s : ∀ j, j < z 0 + 1 → j < z 0 ∨ j = z 0 := fun j hj => by omega
  have i12 : (g 12 (z 0)).toInt = 0 := by rw [a12, nI_0i]
  have i13 : (g 13 (z 0)).toInt = 999 := by rw [a13, nI_999i]
  have i17 : (g 17 (z 0)).toInt = 0 := by rw [a17, nI_0i]
  have i18 : (g 18 (z 0)).toInt = 999 := by rw [a18, nI_999i]
  refine ⟨⟨fun k hk => by have := hE k hk; omega, hw, fun j hj => ?_⟩, ⟨fun j => if j < z 0 then X j else 0, yP_ext hE (fun j hj => (if_pos hj).symm) x1, fun j hj => ?_, fun j hj => ?_⟩, ⟨hF.1, fun j hj => ?_, fun G hG hl j hj => ?_⟩, ⟨hL.1, fun j hj => ?_, fun G hG hl j hj => ?_⟩, fun k hk => hz k (by omega), hq⟩
  · rcases s j hj with q | q
    · exact hb j q
    · rw [q]; omega
  · show zI (g 12) j ≤ (if j < z 0 then X j else 0)
    rcases s j hj with q | q
    · rw [if_pos q]; exact x2 j q
    · rw [if_neg (by omega), q]; show (g 12 (z 0)).toInt ≤ 0; omega
  · show (if j < z 0 then X j else 0) ≤ zI (g 13) j
    rcases s j hj with q | q
    · rw [if_pos q]; exact x3 j q
    · rw [if_neg (by omega), q]; show 0 ≤ (g 13 (z 0)).toInt; omega
  · rcases s j hj with q | q
    · exact hF.2.1 j q
    · rw [q]; show (g 12 (z 0)).toInt ≤ (g 17 (z 0)).toInt; omega
  · rcases s j hj with q | q
    · exact hF.2.2 G hG (fun k hk => hl k (by omega)) j q
    · have h9 : (g 12 (z 0)).toInt ≤ G (z 0) := hl (z 0) (by omega)
      rw [q]; show (g 17 (z 0)).toInt ≤ G (z 0); omega
  · rcases s j hj with q | q
    · exact hL.2.1 j q
    · rw [q]; show -(g 13 (z 0)).toInt ≤ -(g 18 (z 0)).toInt; omega
  · rcases s j hj with q | q
    · exact hL.2.2 G hG (fun k hk => hl k (by omega)) j q
    · have h9 : -(g 13 (z 0)).toInt ≤ G (z 0) := hl (z 0) (by omega)
      rw [q]; show -(g 18 (z 0)).toInt ≤ G (z 0); omega
set_option maxRecDepth 100000 in
set_option maxHeartbeats 4000000 in
theorem st_split (l : Launch) (htr : l.stackTraces = false) (D : va_G) (cA cL : ClassId) (ad ad' : Nat → Nat) (o : Nat) (f : Nat → Int64) (g : Nat → Nat → Int32) (z : Nat → Nat) (g' : Nat → Nat → Int32) (z' : Nat → Nat) (hR : rRel g z g' z') (p0 : Int32) : q_ST l D cA cL yL_split [Cond.codeWith yL_split cL_split 4 (some .int) [(0, 9, 12, 13), (0, 9, 15, 17)]] [.ref (ad 70), .int p0, .ref o] yX6_split [Cond.code yX6_split cX6_split 2 (some .int)] [.ref (ad' 80), .int p0] ad ad' o false g z g' z' f := by
  obtain ⟨⟨⟨ez0, ez1, ez2⟩, ⟨e0, e1, e2, e3, e4, e5, e8, e9, e10, e11, e12, e14, e15, e16, e17, e22, e23⟩, h13⟩, hY, ⟨hP3, hP22, hP0, hP23, hz0, hz1, hz2⟩, ⟨hS9, hS10⟩, hC⟩ := hR
  have hR : rRel g z g' z' := ⟨⟨⟨ez0, ez1, ez2⟩, ⟨e0, e1, e2, e3, e4, e5, e8, e9, e10, e11, e12, e14, e15, e16, e17, e22, e23⟩, h13⟩, hY, ⟨hP3, hP22, hP0, hP23, hz0, hz1, hz2⟩, ⟨hS9, hS10⟩, hC⟩
  by_cases h1 : q_r p0 (z 0)
  · obtain ⟨i, hi, rfl⟩ := h1
    have hcp := cnt_pos (f := g 22) (w := g 22 i) rfl (z 0) hi
    have ecn : cntN (g' 22) (g' 22 i) (z' 0) = cntN (g 22) (g 22 i) (z 0) := by rw [e22, ez0]
    by_cases hcn : 2 ≤ cntN (g 22) (g 22 i) (z 0)
    · by_cases h40 : z 2 < 40
      · refine st_ok (wo_split l D cA cL ad g _ z _ o f (nI i) _ _ ⟨rfl, rfl, Nat.le_of_ble_eq_true rfl, Nat.le_of_ble_eq_true rfl⟩ (c_X5_split l D cA ad g z i hi hz0 hcn h40)) (c_X6_split l D cA ad' g' z' i (by omega) (by omega) (by omega) (by omega)) ⟨rfl, rfl, Nat.le_of_ble_eq_true rfl, Nat.le_of_ble_eq_true rfl⟩ rfl (by rw [ez2]) (⟨⟨⟨ez0, ez1, (by show z' 2 + 1 = z 2 + 1; rw [ez2])⟩, ⟨e0, e1, e2, e3, e4, e5, e8, e9, e10, e11, e12, e14, e15, e16, e17, (by show upd (g' 22) i (nI (z' 2)) = upd (g 22) i (nI (z 2)); rw [e22, ez2]), (by show upd (g' 23) (z' 2) (nI (z' 2)) = upd (g 23) (z 2) (nI (z 2)); rw [e23, ez2])⟩, h13⟩, hY, ⟨hP3, fun k hk => ?_, fun k hk => ?_, fun k hk => ?_, hz0, hz1, (by show z 2 + 1 ≤ 40; omega)⟩, ⟨hS9, hS10⟩, hC⟩)
        · show q_r (if k = i then nI (z 2) else g 22 k) (z 2 + 1)
          split
          · exact q_r_nI (by omega)
          · exact q_r_mono (hP22 k hk) (by omega)
        · have hk2 : z 0 ≤ k := hk
          show (if k = i then nI (z 2) else g 22 k) = nI 0
          rw [if_neg (by omega)]; exact hP0 k hk2
        · have hk2 : k < z 2 + 1 := hk
          show q_r (if k = z 2 then nI (z 2) else g 23 k) (z 2 + 1)
          by_cases c : k = z 2
          · rw [if_pos c]; exact q_r_nI (by omega)
          · rw [if_neg c]; exact q_r_mono (hP23 k (by omega)) (by omega)
      · exact st_thr (k := 2) (by omega) (by omega) (wx_split_ise l D cA cL ad g _ z _ o f (nI i) _ ⟨rfl, rfl, Nat.le_of_ble_eq_true rfl, Nat.le_of_ble_eq_true rfl⟩ (c_X5_splitx3 l htr D cA ad g z i hi hz0 hcn (by omega) hz2)) (c_X6_splitx2 l D cA ad' g' z' i (by omega) (by omega) (Or.inr (by omega)) (by omega)) ⟨rfl, rfl, Nat.le_of_ble_eq_true rfl, Nat.le_of_ble_eq_true rfl⟩ rfl (rR_4 hR)
    · exact st_thr (k := 2) (by omega) (by omega) (wx_split_ise l D cA cL ad g _ z _ o f (nI i) _ ⟨rfl, rfl, Nat.le_of_ble_eq_true rfl, Nat.le_of_ble_eq_true rfl⟩ (c_X5_splitx2 l htr D cA ad g z i hi hz0 (by omega))) (c_X6_splitx2 l D cA ad' g' z' i (by omega) (by omega) (Or.inl (by omega)) (by omega)) ⟨rfl, rfl, Nat.le_of_ble_eq_true rfl, Nat.le_of_ble_eq_true rfl⟩ rfl (rR_4 hR)
  · exact st_thr (k := 1) (by omega) (by omega) (wx_split_iob l D cA cL ad g _ z _ o f p0 _ ⟨rfl, rfl, Nat.le_of_ble_eq_true rfl, Nat.le_of_ble_eq_true rfl⟩ (c_X5_splitx l htr D cA ad g z p0 h1 hz0)) (c_X6_splitx l D cA ad' g' z' p0 (fun q => h1 (by rw [ez0] at q; exact q)) (by omega)) ⟨rfl, rfl, Nat.le_of_ble_eq_true rfl, Nat.le_of_ble_eq_true rfl⟩ rfl (rR_4 hR)
set_option maxRecDepth 100000 in
set_option maxHeartbeats 4000000 in
theorem st_mention (l : Launch) (htr : l.stackTraces = false) (D : va_G) (cA cL : ClassId) (ad ad' : Nat → Nat) (o : Nat) (f : Nat → Int64) (g : Nat → Nat → Int32) (z : Nat → Nat) (g' : Nat → Nat → Int32) (z' : Nat → Nat) (hR : rRel g z g' z') (p0 : Int32) (p1 : Int32) (p2 : Int32) (p3 : Int32) : q_ST l D cA cL yL_mention [Cond.codeWith yL_mention cL_mention 7 (some .int) [(0, 14, 17, 13), (0, 14, 21, 15), (0, 14, 25, 17)]] [.ref (ad 70), .int p0, .int p1, .int p2, .int p3, .ref o] yX6_mention [Cond.code yX6_mention cX6_mention 6 (some .int)] [.ref (ad' 80), .int p0, .int p1, .int p2, .int p3] ad ad' o false g z g' z' f := by
  obtain ⟨⟨⟨ez0, ez1, ez2⟩, ⟨e0, e1, e2, e3, e4, e5, e8, e9, e10, e11, e12, e14, e15, e16, e17, e22, e23⟩, h13⟩, hY, ⟨hP3, hP22, hP0, hP23, hz0, hz1, hz2⟩, ⟨hS9, hS10⟩, hC⟩ := hR
  have hR : rRel g z g' z' := ⟨⟨⟨ez0, ez1, ez2⟩, ⟨e0, e1, e2, e3, e4, e5, e8, e9, e10, e11, e12, e14, e15, e16, e17, e22, e23⟩, h13⟩, hY, ⟨hP3, hP22, hP0, hP23, hz0, hz1, hz2⟩, ⟨hS9, hS10⟩, hC⟩
  by_cases hpo : p3 = (-1) ∨ q_r p3 8
  · by_cases hnm : ¬ p0 < nI 0 ∧ p0 ≤ nI 9
    · by_cases hfm : ¬ p1 < (-1) ∧ p1 ≤ nI 9
      · by_cases hpl : ¬ p2 < nI 0 ∧ p2 ≤ nI 5
        · by_cases h16 : z 0 < 16
          · by_cases h40 : z 2 < 40
            · refine st_ok (wo_mention l D cA cL ad g _ z _ o f p0 p1 p2 p3 _ _ ⟨rfl, rfl, Nat.le_of_ble_eq_true rfl, Nat.le_of_ble_eq_true rfl⟩ (c_X5_mention l D cA ad g z p0 p1 p2 p3 hpo hnm hfm hpl h16 h40)) (c_X6_mention l D cA ad' g' z' p0 p1 p2 p3 hpo hnm hfm hpl (by omega) (by omega)) ⟨rfl, rfl, Nat.le_of_ble_eq_true rfl, Nat.le_of_ble_eq_true rfl⟩ rfl (by rw [ez0]) (⟨⟨⟨(by show z' 0 + 1 = z 0 + 1; rw [ez0]), ez1, (by show z' 2 + 1 = z 2 + 1; rw [ez2])⟩, ⟨(by show upd (g' 0) (z' 0) p0 = upd (g 0) (z 0) p0; rw [e0, ez0]), (by show upd (g' 1) (z' 0) p1 = upd (g 1) (z 0) p1; rw [e1, ez0]), (by show upd (g' 2) (z' 0) p2 = upd (g 2) (z 0) p2; rw [e2, ez0]), (by show upd (g' 3) (z' 0) p3 = upd (g 3) (z 0) p3; rw [e3, ez0]), (by show upd (g' 4) (z' 0) (-1) = upd (g 4) (z 0) (-1); rw [e4, ez0]), e5, e8, e9, e10, e11, (by show upd (g' 12) (z' 0) (nI 0) = g 12; rw [e12, ez0]; exact upd_self (hY.2.2.2.2.1 (z 0) (Nat.le_refl _)).1.symm), e14, e15, e16, (by show upd (g' 17) (z' 0) (nI 0) = g 17; rw [e17, ez0]; exact upd_self (hY.2.2.2.2.1 (z 0) (Nat.le_refl _)).2.2.1.symm), (by show upd (g' 22) (z' 0) (nI (z' 2)) = upd (g 22) (z 0) (nI (z 2)); rw [e22, ez0, ez2]), (by show upd (g' 23) (z' 2) (nI (z' 2)) = upd (g 23) (z 2) (nI (z 2)); rw [e23, ez2])⟩, (fun k hk => ?_)⟩, rY_new hY rfl rfl, ⟨fun k hk => ?_, fun k hk => ?_, fun k hk => ?_, fun k hk => ?_, (by show z 0 + 1 ≤ 16; omega), hz1, (by show z 2 + 1 ≤ 40; omega)⟩, ⟨hS9, hS10⟩, hC⟩)
              · have hk2 : k < z 0 + 1 := hk
                obtain ⟨y12, y13, y17, y18⟩ := hY.2.2.2.2.1 (z 0) (Nat.le_refl _)
                show (if k = z' 0 then nI 999 else g' 13 k) = g 13 k ∧ (if k = z' 0 then nI 999 else g' 18 k) = g 18 k
                by_cases c : k = z 0
                · rw [if_pos (by omega), if_pos (by omega), c]; exact ⟨y13.symm, y18.symm⟩
                · rw [if_neg (by omega), if_neg (by omega)]; exact h13 k (by omega)
              · have hk2 : k < z 0 + 1 := hk
                show (if k = z 0 then p3 else g 3 k) = (-1) ∨ q_r (if k = z 0 then p3 else g 3 k) 8
                by_cases c : k = z 0
                · rw [if_pos c]; exact hpo
                · rw [if_neg c]; exact hP3 k (by omega)
              · have hk2 : k < z 0 + 1 := hk
                show q_r (if k = z 0 then nI (z 2) else g 22 k) (z 2 + 1)
                by_cases c : k = z 0
                · rw [if_pos c]; exact q_r_nI (by omega)
                · rw [if_neg c]; exact q_r_mono (hP22 k (by omega)) (by omega)
              · have hk2 : z 0 + 1 ≤ k := hk
                show (if k = z 0 then nI (z 2) else g 22 k) = nI 0
                rw [if_neg (by omega)]; exact hP0 k (by omega)
              · have hk2 : k < z 2 + 1 := hk
                show q_r (if k = z 2 then nI (z 2) else g 23 k) (z 2 + 1)
                by_cases c : k = z 2
                · rw [if_pos c]; exact q_r_nI (by omega)
                · rw [if_neg c]; exact q_r_mono (hP23 k (by omega)) (by omega)
            · exact st_thr (k := 3) (by omega) (by omega) (wx_mention_ise l D cA cL ad g _ z _ o f p0 p1 p2 p3 _ ⟨rfl, rfl, Nat.le_of_ble_eq_true rfl, Nat.le_of_ble_eq_true rfl⟩ (c_X5_mentionx6 l htr D cA ad g z p0 p1 p2 p3 hpo hnm hfm hpl h16 (by omega) hz2)) (c_X6_mentionx5 l D cA ad' g' z' p0 p1 p2 p3 hpo hnm hfm hpl (Or.inr (by omega)) (by omega) (by omega)) ⟨rfl, rfl, Nat.le_of_ble_eq_true rfl, Nat.le_of_ble_eq_true rfl⟩ rfl (rR_4 hR)
          · exact st_thr (k := 3) (by omega) (by omega) (wx_mention_ise l D cA cL ad g _ z _ o f p0 p1 p2 p3 _ ⟨rfl, rfl, Nat.le_of_ble_eq_true rfl, Nat.le_of_ble_eq_true rfl⟩ (c_X5_mentionx5 l htr D cA ad g z p0 p1 p2 p3 hpo hnm hfm hpl (by omega) hz0)) (c_X6_mentionx5 l D cA ad' g' z' p0 p1 p2 p3 hpo hnm hfm hpl (Or.inl (by omega)) (by omega) (by omega)) ⟨rfl, rfl, Nat.le_of_ble_eq_true rfl, Nat.le_of_ble_eq_true rfl⟩ rfl (rR_4 hR)
        · exact st_thr (k := 2) (by omega) (by omega) (wx_mention_iae l D cA cL ad g _ z _ o f p0 p1 p2 p3 _ ⟨rfl, rfl, Nat.le_of_ble_eq_true rfl, Nat.le_of_ble_eq_true rfl⟩ (c_X5_mentionx4 l htr D cA ad g z p0 p1 p2 p3 hpo hnm hfm hpl)) (c_X6_mentionx2 l D cA ad' g' z' p0 p1 p2 p3 hpo (fun q => hpl q.2.2)) ⟨rfl, rfl, Nat.le_of_ble_eq_true rfl, Nat.le_of_ble_eq_true rfl⟩ rfl (rR_4 hR)
      · exact st_thr (k := 2) (by omega) (by omega) (wx_mention_iae l D cA cL ad g _ z _ o f p0 p1 p2 p3 _ ⟨rfl, rfl, Nat.le_of_ble_eq_true rfl, Nat.le_of_ble_eq_true rfl⟩ (c_X5_mentionx3 l htr D cA ad g z p0 p1 p2 p3 hpo hnm hfm)) (c_X6_mentionx2 l D cA ad' g' z' p0 p1 p2 p3 hpo (fun q => hfm q.2.1)) ⟨rfl, rfl, Nat.le_of_ble_eq_true rfl, Nat.le_of_ble_eq_true rfl⟩ rfl (rR_4 hR)
    · exact st_thr (k := 2) (by omega) (by omega) (wx_mention_iae l D cA cL ad g _ z _ o f p0 p1 p2 p3 _ ⟨rfl, rfl, Nat.le_of_ble_eq_true rfl, Nat.le_of_ble_eq_true rfl⟩ (c_X5_mentionx2 l htr D cA ad g z p0 p1 p2 p3 hpo hnm)) (c_X6_mentionx2 l D cA ad' g' z' p0 p1 p2 p3 hpo (fun q => hnm q.1)) ⟨rfl, rfl, Nat.le_of_ble_eq_true rfl, Nat.le_of_ble_eq_true rfl⟩ rfl (rR_4 hR)
  · exact st_thr (k := 1) (by omega) (by omega) (wx_mention_iob l D cA cL ad g _ z _ o f p0 p1 p2 p3 _ ⟨rfl, rfl, Nat.le_of_ble_eq_true rfl, Nat.le_of_ble_eq_true rfl⟩ (c_X5_mentionx l htr D cA ad g z p0 p1 p2 p3 (fun q => hpo (Or.inl q)) (fun q => hpo (Or.inr q)))) (c_X6_mentionx l D cA ad' g' z' p0 p1 p2 p3 (fun q => hpo (Or.inl q)) (fun q => hpo (Or.inr q))) ⟨rfl, rfl, Nat.le_of_ble_eq_true rfl, Nat.le_of_ble_eq_true rfl⟩ rfl (rR_4 hR)
