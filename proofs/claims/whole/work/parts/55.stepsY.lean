section YX
variable {a a' b b' : Nat → Nat} {w w' : Nat → Int} {t n : Nat} {lo lo' X X' : Nat → Int}
theorem yP_cgE (h : ∀ k, k < t → a' k = a k ∧ b' k = b k ∧ w' k = w k) (hX : yP a b w t X) : yP a' b' w' t X := fun k hk => by
  obtain ⟨h1, h2, h3⟩ := h k hk
  rw [h1, h2, h3]
  exact hX k hk
theorem yM_cgE (h : ∀ k, k < t → a' k = a k ∧ b' k = b k ∧ w' k = w k) (hM : yM a b w t n lo X) : yM a' b' w' t n lo X :=
  ⟨yP_cgE h hM.1, hM.2.1, fun G hG => hM.2.2 G (yP_cgE (fun k hk => ⟨(h k hk).1.symm, (h k hk).2.1.symm, (h k hk).2.2.symm⟩) hG)⟩
theorem yM_lo (h : ∀ j, j < n → lo j = lo' j) (hM : yM a b w t n lo X) : yM a b w t n lo' X :=
  ⟨hM.1, fun j hj => by rw [← h j hj]; exact hM.2.1 j hj, fun G hG hl => hM.2.2 G hG (fun j hj => by rw [h j hj]; exact hl j hj)⟩
theorem yM_hi {m : Nat} (hnm : n ≤ m) (h : ∀ j, n ≤ j → j < m → lo j = X j) (hM : yM a b w t n lo X) : yM a b w t m lo X := by
  refine ⟨hM.1, fun j hj => ?_, fun G hG hl j hj => ?_⟩
  · rcases Nat.lt_or_ge j n with q | q
    · exact hM.2.1 j q
    · rw [h j q hj]; exact Int.le_refl _
  · rcases Nat.lt_or_ge j n with q | q
    · exact hM.2.2 G hG (fun k hk => hl k (by omega)) j q
    · rw [← h j q hj]; exact hl j hj
end YX
theorem rY_ext {g g2 : Nat → Nat → Int32} {z : Nat → Nat} (h : ∀ k, k < z 1 → g2 14 k = g 14 k ∧ g2 15 k = g 15 k ∧ g2 16 k = g 16 k) (h12 : g2 12 = g 12) (h13 : g2 13 = g 13) (h17 : g2 17 = g 17) (h18 : g2 18 = g 18) (hY : rY g z) : rY g2 z := by
  unfold rY at *
  rw [h12, h13, h17, h18]
  obtain ⟨⟨hE, hw, hb⟩, ⟨X, x1, x2, x3⟩, hF, hL, hz, hq⟩ := hY
  have c : ∀ k, k < z 1 → zQ (g2 14) k = zQ (g 14) k ∧ zQ (g2 15) k = zQ (g 15) k ∧ zI (g2 16) k = zI (g 16) k := fun k hk => by
    obtain ⟨a1, a2, a3⟩ := h k hk
    unfold zQ zI
    rw [a1, a2, a3]
    exact ⟨rfl, rfl, rfl⟩
  refine ⟨⟨fun k hk => by rw [(c k hk).1, (c k hk).2.1]; exact hE k hk, fun k hk => by rw [(h k hk).2.2]; exact hw k hk, hb⟩, ⟨X, yP_cgE c x1, x2, x3⟩, yM_cgE c hF, yM_cgE (fun k hk => ⟨(c k hk).2.1, (c k hk).1, (c k hk).2.2⟩) hL, hz, fun k hk => by rw [(h k hk).1, (h k hk).2.1]; exact hq k hk⟩
theorem mvd_cg {F L F0 L0 F' L' F0' L0' : Nat → Int32} : ∀ n, (∀ j, j < n → F j = F' j ∧ L j = L' j ∧ F0 j = F0' j ∧ L0 j = L0' j) → mvd F L F0 L0 n = mvd F' L' F0' L0' n
  | 0, _ => rfl
  | n + 1, h => by
    obtain ⟨h1, h2, h3, h4⟩ := h n (by omega)
    rw [mvd, mvd, mvd_cg n (fun j hj => h j (by omega)), h1, h2, h3, h4]
theorem mvd_hi {F L F0 L0 : Nat → Int32} {n : Nat} (h : ∀ j, n ≤ j → F j = F0 j ∧ L j = L0 j) : ∀ d, mvd F L F0 L0 (n + d) = mvd F L F0 L0 n
  | 0 => rfl
  | d + 1 => by
    rw [← Nat.add_assoc, mvd, if_pos (h (n + d) (by omega)), mvd_hi h d]
/-- both sides' datings -/
theorem dt_both {A B W lo hi hi' : Nat → Int32} (s1 s2 : Nat → Int32) {t n : Nat} (h : yOK A B W lo hi t n) (hn : n ≤ 16) (ht : t ≤ 40) (hx : ∀ j, n ≤ j → j < 16 → lo j ≤ hi j) (hh : ∀ j, j < n → hi' j = hi j) :
    ∃ (u0 : Nat) (dF dL : Nat → Int32) (bb : Bool), dtH u0 A B W lo hi' s1 s2 t n ∧ ((dtD u0 A B W lo hi' s1 s2 t n).1 = dF ∧ (dtD u0 A B W lo hi' s1 s2 t n).2.1 = dL ∧ (dtD u0 A B W lo hi' s1 s2 t n).2.2.1 = bb) ∧ dOK A B W lo hi t = bb ∧
      (bb = true → (∃ X, dtg A B W lo hi t n X) ∧ lsF A B W lo t n (itF A B W lo t 16) ∧ lsL A B W hi t n (itL A B W hi t 16) ∧ ∀ j, j < n → dF j = itF A B W lo t 16 j ∧ dL j = itL A B W hi t 16 j) := by
  have h' : yOK A B W lo hi' t n := ⟨h.1, h.2.1, fun j hj => by rw [hh j hj]; exact h.2.2 j hj⟩
  obtain ⟨u0, hu⟩ : ∃ u : Nat, 40000 ≤ u := ⟨40000, Nat.le_refl _⟩
  obtain ⟨m1, m2, m3⟩ := md_dt (F0 := s1) (L0 := s2) h' hn ht hu
  refine ⟨u0, _, _, _, m1, ⟨rfl, rfl, rfl⟩, ?_, fun hb => ?_⟩
  · by_cases hX : ∃ X, dtg A B W lo hi t n X
    · rw [(cl_1 h hn ht hx hX).1]
      obtain ⟨X, x1, x2, x3⟩ := hX
      exact (m2.2 ⟨X, x1, x2, fun j hj => by show X j ≤ (hi' j).toInt; rw [hh j hj]; exact x3 j hj⟩).symm
    · have e1 : dOK A B W lo hi t = false := by
        cases hd : dOK A B W lo hi t with
        | false => rfl
        | true => exact absurd (cl_2 h hn ht hd) hX
      rw [e1]
      cases hd : (dtD u0 A B W lo hi' s1 s2 t n).2.2.1 with
      | false => rfl
      | true =>
        obtain ⟨X, x1, x2, x3⟩ := m2.1 hd
        exact absurd ⟨X, x1, x2, fun j hj => by show X j ≤ (hi j).toInt; rw [← hh j hj]; exact x3 j hj⟩ hX
  · obtain ⟨X, x1, x2, x3⟩ := m2.1 hb
    have hX : ∃ X, dtg A B W lo hi t n X := ⟨X, x1, x2, fun j hj => by show X j ≤ (hi j).toInt; rw [← hh j hj]; exact x3 j hj⟩
    obtain ⟨-, c2, c3⟩ := cl_1 h hn ht hx hX
    obtain ⟨d2, d3⟩ := m3 hb
    have d3' : yM (zQ B) (zQ A) (zI W) t n (zN hi) (zN (dtD u0 A B W lo hi' s1 s2 t n).2.1) := yM_lo (fun j hj => by show -(hi' j).toInt = -(hi j).toInt; rw [hh j hj]) d3
    refine ⟨hX, c2, c3, fun j hj => ⟨?_, ?_⟩⟩
    · rw [zz_eq]; exact yM_uni d2 c2 hj
    · have := yM_uni d3' c3 hj
      have e1 : zN (dtD u0 A B W lo hi' s1 s2 t n).2.1 j = -((dtD u0 A B W lo hi' s1 s2 t n).2.1 j).toInt := rfl
      have e2 : zN (itL A B W hi t 16) j = -(itL A B W hi t 16 j).toInt := rfl
      rw [zz_eq]; omega
theorem m50 : ((-50 : Int32)).toInt = -50 := by decide +kernel
theorem p50 : (nI 50).toInt = 50 := by decide +kernel
/-- one telling more -/
theorem yOK_add {g : Nat → Nat → Int32} {z : Nat → Nat} {i j : Nat} {w : Int32} (hY : rY g z) (hi : i < z 0) (hj : j < z 0) (hz : z 0 ≤ 16) (hw : ¬ w < (-50) ∧ w ≤ nI 50) : yOK (upd (g 14) (z 1) (nI i)) (upd (g 15) (z 1) (nI j)) (upd (g 16) (z 1) w) (g 12) (g 13) (z 1 + 1) (z 0) := by
  obtain ⟨⟨hE, hw2, hb⟩, -⟩ := hY
  rw [zz_lt, zz_le, m50, p50] at hw
  refine ⟨fun k hk => ?_, fun k hk => ?_, hb⟩
  · show q_n (if k = z 1 then nI i else g 14 k) < z 0 ∧ q_n (if k = z 1 then nI j else g 15 k) < z 0
    by_cases c : k = z 1
    · rw [if_pos c, if_pos c, q_n_nI (by omega), q_n_nI (by omega)]; exact ⟨hi, hj⟩
    · rw [if_neg c, if_neg c]; exact hE k (by omega)
  · show -50 ≤ (if k = z 1 then w else g 16 k).toInt ∧ (if k = z 1 then w else g 16 k).toInt ≤ 50
    by_cases c : k = z 1
    · rw [if_pos c]; omega
    · rw [if_neg c]; exact hw2 k (by omega)
theorem rY_hx {g : Nat → Nat → Int32} {z : Nat → Nat} (hY : rY g z) : ∀ j, z 0 ≤ j → j < 16 → g 12 j ≤ g 13 j := fun j hj _ => by
  obtain ⟨a, b, -⟩ := hY.2.2.2.2.1 j hj
  rw [a, b]; decide
theorem upd_o {f : Nat → Int32} {k j : Nat} {x : Int32} (h : ¬ j = k) : upd f k x j = f j := if_neg h
/-- years narrowed -/
theorem yOK_nar {g : Nat → Nat → Int32} {z : Nat → Nat} {k : Nat} {lo hi : Int32} (hY : rY g z) (hlo : ¬ lo < nI 0 ∧ lo ≤ nI 999) (hhi : ¬ hi < lo ∧ hi ≤ nI 999) : yOK (g 14) (g 15) (g 16) (upd (g 12) k (mx (g 12 k) lo)) (upd (g 13) k (mn (g 13 k) hi)) (z 1) (z 0) := by
  obtain ⟨⟨hE, hw2, hb⟩, -⟩ := hY
  rw [zz_lt, zz_le, nI_0i, nI_999i] at hlo
  rw [zz_lt, zz_le, nI_999i] at hhi
  refine ⟨hE, hw2, fun j hj => ?_⟩
  have := hb j hj
  show 0 ≤ (if j = k then mx (g 12 k) lo else g 12 j).toInt ∧ (if j = k then mx (g 12 k) lo else g 12 j).toInt ≤ 999 ∧ 0 ≤ (if j = k then mn (g 13 k) hi else g 13 j).toInt ∧ (if j = k then mn (g 13 k) hi else g 13 j).toInt ≤ 999
  by_cases c : j = k
  · subst c
    rw [if_pos rfl, if_pos rfl]
    rcases mx_3 (g 12 j) lo with q | q <;> rcases mn_3 (g 13 j) hi with r | r <;> rw [q.1, r.1] <;> omega
  · rw [if_neg c, if_neg c]; exact this
theorem rY_rg {g : Nat → Nat → Int32} {z : Nat → Nat} (hY : rY g z) : (∀ j, 0 ≤ (g 12 j).toInt ∧ (g 12 j).toInt ≤ 999 ∧ 0 ≤ (g 13 j).toInt ∧ (g 13 j).toInt ≤ 999) ∧ (∀ j, 0 ≤ (g 17 j).toInt ∧ (g 17 j).toInt ≤ 999) ∧ (∀ j, 0 ≤ (g 18 j).toInt ∧ (g 18 j).toInt ≤ 999) := by
  obtain ⟨⟨hE, hw2, hb⟩, ⟨X, x1, x2, x3⟩, hF, hL, hz, -⟩ := hY
  refine ⟨fun j => ?_, fun j => ?_, fun j => ?_⟩
  · rcases Nat.lt_or_ge j (z 0) with q | q
    · exact hb j q
    · obtain ⟨a1, a2, a3, a4⟩ := hz j q
      rw [a1, a2, nI_0i, nI_999i]; decide
  · rcases Nat.lt_or_ge j (z 0) with q | q
    · have b1 := hb j q
      have b2 : (g 12 j).toInt ≤ (g 17 j).toInt := hF.2.1 j q
      have b3 : (g 17 j).toInt ≤ X j := hF.2.2 X x1 x2 j q
      have b4 : X j ≤ (g 13 j).toInt := x3 j q
      omega
    · obtain ⟨a1, a2, a3, a4⟩ := hz j q
      rw [a3, nI_0i]; decide
  · rcases Nat.lt_or_ge j (z 0) with q | q
    · have b1 := hb j q
      have b2 : -(g 13 j).toInt ≤ -(g 18 j).toInt := hL.2.1 j q
      have b3 : -(g 18 j).toInt ≤ -X j := hL.2.2 _ (yP_neg x1) (fun k hk => by have b9 : X k ≤ (g 13 k).toInt := x3 k hk; show -(g 13 k).toInt ≤ -X k; omega) j q
      have b4 : (g 12 j).toInt ≤ X j := x2 j q
      omega
    · obtain ⟨a1, a2, a3, a4⟩ := hz j q
      rw [a4, nI_999i]; decide
/-- the years by ways are the years -/
theorem ways_ok {g : Nat → Nat → Int32} {z : Nat → Nat} (hY : rY g z) (hz : z 0 ≤ 16) {k : Nat} (hk : k < z 0) : fstW (g 12) (allW (g 14) (g 15) (g 16) (z 1)) k 16 = g 17 k ∧ lstW (g 13) (allW (g 14) (g 15) (g 16) (z 1)) k 16 = g 18 k := by
  obtain ⟨r1, r2, r3⟩ := rY_rg hY
  obtain ⟨⟨hE, hw2, hb⟩, -, hF, hL, hz9, -⟩ := hY
  have hE16 : yE (zQ (g 14)) (zQ (g 15)) (z 1) 16 := fun q hq => by have := hE q hq; omega
  have hI := all_in hw2 hE16 hF.1 (fun j _ => r2 j)
  have hF16 : lsF (g 14) (g 15) (g 16) (g 12) (z 1) 16 (g 17) := yM_hi hz (fun j hj _ => by show (g 12 j).toInt = (g 17 j).toInt; rw [(hz9 j hj).1, (hz9 j hj).2.2.1]) hF
  have hL16 : lsL (g 14) (g 15) (g 16) (g 13) (z 1) 16 (g 18) := yM_hi hz (fun j hj _ => by show -(g 13 j).toInt = -(g 18 j).toInt; rw [(hz9 j hj).2.1, (hz9 j hj).2.2.2]) hL
  exact ⟨fst_ok hI hE16 hF16 (fun j _ => ⟨(r1 j).1, (r1 j).2.1⟩) (fun j _ => r2 j) (by omega), lst_ok hI hE16 hL16 (fun j _ => (r1 j).2.2) (fun j _ => r3 j) (by omega)⟩
set_option maxRecDepth 100000 in
set_option maxHeartbeats 4000000 in
theorem st_year (l : Launch) (htr : l.stackTraces = false) (D : va_G) (cA cL : ClassId) (ad ad' : Nat → Nat) (o : Nat) (f : Nat → Int64) (g : Nat → Nat → Int32) (z : Nat → Nat) (g' : Nat → Nat → Int32) (z' : Nat → Nat) (hR : rRel g z g' z') (p0 : Int32) (b1 : Bool) : q_ST l D cA cL yL_year [Cond.codeWith yL_year cL_year 5 (some .int) [(0, 10, 13, 13)]] [.ref (ad 70), .int p0, .int (q_b b1), .ref o] yX6_year [Cond.code yX6_year cX6_year 3 (some .int)] [.ref (ad' 80), .int p0, .int (q_b b1)] ad ad' o false g z g' z' f := by
  obtain ⟨⟨⟨ez0, ez1, ez2⟩, ⟨e0, e1, e2, e3, e4, e5, e8, e9, e10, e11, e12, e14, e15, e16, e17, e22, e23⟩, h13⟩, hY, ⟨hP3, hP22, hP0, hP23, hz0, hz1, hz2⟩, ⟨hS9, hS10⟩, hC⟩ := hR
  have hR : rRel g z g' z' := ⟨⟨⟨ez0, ez1, ez2⟩, ⟨e0, e1, e2, e3, e4, e5, e8, e9, e10, e11, e12, e14, e15, e16, e17, e22, e23⟩, h13⟩, hY, ⟨hP3, hP22, hP0, hP23, hz0, hz1, hz2⟩, ⟨hS9, hS10⟩, hC⟩
  by_cases h1 : q_r p0 (z 0)
  · obtain ⟨i, hi, rfl⟩ := h1
    exact st_ok (wo_year l D cA cL ad g _ z _ o f (nI i) (q_b b1) _ _ ⟨rfl, rfl, Nat.le_of_ble_eq_true rfl, Nat.le_of_ble_eq_true rfl⟩ (c_X5_year l D cA ad g z i b1 hi hz0)) (c_X6_year l D cA ad' g' z' i b1 (by omega) (by omega)) ⟨rfl, rfl, Nat.le_of_ble_eq_true rfl, Nat.le_of_ble_eq_true rfl⟩ rfl (by rw [e17, (h13 i hi).2]) (rR_4 hR)
  · exact st_thr (k := 1) (by omega) (by omega) (wx_year_iob l D cA cL ad g _ z _ o f p0 (q_b b1) _ ⟨rfl, rfl, Nat.le_of_ble_eq_true rfl, Nat.le_of_ble_eq_true rfl⟩ (c_X5_yearx l htr D cA ad g z p0 b1 h1 hz0)) (c_X6_yearx l D cA ad' g' z' p0 b1 (fun q => h1 (by rw [ez0] at q; exact q)) (by omega)) ⟨rfl, rfl, Nat.le_of_ble_eq_true rfl, Nat.le_of_ble_eq_true rfl⟩ rfl (rR_4 hR)
set_option maxRecDepth 100000 in
set_option maxHeartbeats 4000000 in
theorem st_yearAnew (l : Launch) (htr : l.stackTraces = false) (D : va_G) (cA cL : ClassId) (ad ad' : Nat → Nat) (o : Nat) (f : Nat → Int64) (g : Nat → Nat → Int32) (z : Nat → Nat) (g' : Nat → Nat → Int32) (z' : Nat → Nat) (hR : rRel g z g' z') (p0 : Int32) (b1 : Bool) : q_ST l D cA cL yL_yearAnew [Cond.codeWith yL_yearAnew cL_yearAnew 5 (some .int) [(0, 10, 13, 13)]] [.ref (ad 70), .int p0, .int (q_b b1), .ref o] yX6_yearAnew [Cond.code yX6_yearAnew cX6_yearAnew 3 (some .int)] [.ref (ad' 80), .int p0, .int (q_b b1)] ad ad' o false g z g' z' f := by
  obtain ⟨⟨⟨ez0, ez1, ez2⟩, ⟨e0, e1, e2, e3, e4, e5, e8, e9, e10, e11, e12, e14, e15, e16, e17, e22, e23⟩, h13⟩, hY, ⟨hP3, hP22, hP0, hP23, hz0, hz1, hz2⟩, ⟨hS9, hS10⟩, hC⟩ := hR
  have hR : rRel g z g' z' := ⟨⟨⟨ez0, ez1, ez2⟩, ⟨e0, e1, e2, e3, e4, e5, e8, e9, e10, e11, e12, e14, e15, e16, e17, e22, e23⟩, h13⟩, hY, ⟨hP3, hP22, hP0, hP23, hz0, hz1, hz2⟩, ⟨hS9, hS10⟩, hC⟩
  by_cases h1 : q_r p0 (z 0)
  · obtain ⟨i, hi, rfl⟩ := h1
    exact st_ok (wo_yearAnew l D cA cL ad g _ z _ o f (nI i) (q_b b1) _ _ ⟨rfl, rfl, Nat.le_of_ble_eq_true rfl, Nat.le_of_ble_eq_true rfl⟩ (c_X5_yearAnew l D cA ad g z i b1 hi hz0 hY.2.2.2.2.2 hz1)) (c_X6_yearAnew l D cA ad' g' z' i b1 (by omega) (by omega)) ⟨rfl, rfl, Nat.le_of_ble_eq_true rfl, Nat.le_of_ble_eq_true rfl⟩ rfl (by rw [e17, (h13 i hi).2, (ways_ok hY hz0 hi).1, (ways_ok hY hz0 hi).2]) (rR_4 hR)
  · exact st_thr (k := 1) (by omega) (by omega) (wx_yearAnew_iob l D cA cL ad g _ z _ o f p0 (q_b b1) _ ⟨rfl, rfl, Nat.le_of_ble_eq_true rfl, Nat.le_of_ble_eq_true rfl⟩ (c_X5_yearAnewx l htr D cA ad g z p0 b1 h1 hz0)) (c_X6_yearAnewx l D cA ad' g' z' p0 b1 (fun q => h1 (by rw [ez0] at q; exact q)) (by omega)) ⟨rfl, rfl, Nat.le_of_ble_eq_true rfl, Nat.le_of_ble_eq_true rfl⟩ rfl (rR_4 hR)
set_option maxRecDepth 100000 in
set_option maxHeartbeats 4000000 in
theorem st_ahead (l : Launch) (htr : l.stackTraces = false) (D : va_G) (cA cL : ClassId) (ad ad' : Nat → Nat) (o : Nat) (f : Nat → Int64) (g : Nat → Nat → Int32) (z : Nat → Nat) (g' : Nat → Nat → Int32) (z' : Nat → Nat) (hR : rRel g z g' z') (p0 : Int32) (p1 : Int32) (p2 : Int32) : q_ST l D cA cL yL_ahead [Cond.codeWith yL_ahead cL_ahead 6 (some .int) [(0, 12, 15, 13), (0, 12, 19, 15), (0, 12, 23, 17)]] [.ref (ad 70), .int p0, .int p1, .int p2, .ref o] yX6_ahead [Cond.code yX6_ahead cX6_ahead 5 (some .int)] [.ref (ad' 80), .int p0, .int p1, .int p2] ad ad' o false g z g' z' f := by
  obtain ⟨⟨⟨ez0, ez1, ez2⟩, ⟨e0, e1, e2, e3, e4, e5, e8, e9, e10, e11, e12, e14, e15, e16, e17, e22, e23⟩, h13⟩, hY, ⟨hP3, hP22, hP0, hP23, hz0, hz1, hz2⟩, ⟨hS9, hS10⟩, hC⟩ := hR
  have hR : rRel g z g' z' := ⟨⟨⟨ez0, ez1, ez2⟩, ⟨e0, e1, e2, e3, e4, e5, e8, e9, e10, e11, e12, e14, e15, e16, e17, e22, e23⟩, h13⟩, hY, ⟨hP3, hP22, hP0, hP23, hz0, hz1, hz2⟩, ⟨hS9, hS10⟩, hC⟩
  by_cases h1 : q_r p0 (z 0)
  · by_cases h2 : q_r p1 (z 0)
    · by_cases hne : p0 = p1
      · exact st_thr (k := 2) (by omega) (by omega) (wx_ahead_iae l D cA cL ad g _ z _ o f p0 p1 p2 _ ⟨rfl, rfl, Nat.le_of_ble_eq_true rfl, Nat.le_of_ble_eq_true rfl⟩ (c_X5_aheadx3 l htr D cA ad g z p0 p1 p2 h1 h2 hne hz0)) (c_X6_aheadx3 l D cA ad' g' z' p0 p1 p2 (by omega) (by rw [ez0]; exact h1) (by rw [ez0]; exact h2) (Or.inl hne)) ⟨rfl, rfl, Nat.le_of_ble_eq_true rfl, Nat.le_of_ble_eq_true rfl⟩ rfl (rR_4 hR)
      · by_cases hw : ¬ p2 < (-50) ∧ p2 ≤ nI 50
        · obtain ⟨i, hi, rfl⟩ := h1
          obtain ⟨j, hj, rfl⟩ := h2
          have hij : ¬ i = j := fun q => hne (by rw [q])
          by_cases h40 : z 1 < 40
          · have hE6 : ∀ k, k < z' 1 → q_r (g' 14 k) 16 ∧ q_r (g' 15 k) 16 := fun k hk => by rw [e14, e15]; exact hY.2.2.2.2.2 k (by omega)
            have hOK := yOK_add hY hi hj hz0 hw
            obtain ⟨u0, dF, dL, bb, d1, d2, d3, d4⟩ := dt_both (g' 19) (g' 20) hOK hz0 (by omega) (rY_hx hY) (fun k hk => (h13 k hk).1)
            have d1' : dtH u0 (upd (g' 14) (z' 1) (nI i)) (upd (g' 15) (z' 1) (nI j)) (upd (g' 16) (z' 1) p2) (g' 12) (g' 13) (g' 19) (g' 20) (z' 1 + 1) (z' 0) := by rw [e14, e15, e16, e12, ez0, ez1]; exact d1
            have d2' : (dtD u0 (upd (g' 14) (z' 1) (nI i)) (upd (g' 15) (z' 1) (nI j)) (upd (g' 16) (z' 1) p2) (g' 12) (g' 13) (g' 19) (g' 20) (z' 1 + 1) (z' 0)).1 = dF ∧ (dtD u0 (upd (g' 14) (z' 1) (nI i)) (upd (g' 15) (z' 1) (nI j)) (upd (g' 16) (z' 1) p2) (g' 12) (g' 13) (g' 19) (g' 20) (z' 1 + 1) (z' 0)).2.1 = dL ∧ (dtD u0 (upd (g' 14) (z' 1) (nI i)) (upd (g' 15) (z' 1) (nI j)) (upd (g' 16) (z' 1) p2) (g' 12) (g' 13) (g' 19) (g' 20) (z' 1 + 1) (z' 0)).2.2.1 = bb := by rw [e14, e15, e16, e12, ez0, ez1]; exact d2
            have u14 : upd (g' 14) (z' 1) (nI i) = upd (g 14) (z 1) (nI i) := by rw [e14, ez1]
            have u15 : upd (g' 15) (z' 1) (nI j) = upd (g 15) (z 1) (nI j) := by rw [e15, ez1]
            have u16 : upd (g' 16) (z' 1) p2 = upd (g 16) (z 1) p2 := by rw [e16, ez1]
            have ot := fun (k : Nat) (hk : z 0 ≤ k) => it_out (W := upd (g 16) (z 1) p2) (lo := g 12) (hi := g 13) hOK.1 hk 16
            cases bb with
            | true =>
              obtain ⟨f1, f2, f3, f4⟩ := d4 rfl
              have c5 := c_X5_ahead l D cA ad g z i j p2 hi hj hz0 hij hw hY.2.2.2.2.2 h40 d3
              rw [d3] at c5
              have c6 := c_X6_ahead l D cA ad' g' z' i j p2 u0 dF dL (by omega) (by omega) (by omega) hij hw hE6 (by omega) d1' d2'
              refine st_ok (wo_ahead l D cA cL ad g _ z _ o f (nI i) (nI j) p2 _ _ ⟨rfl, rfl, Nat.le_of_ble_eq_true rfl, Nat.le_of_ble_eq_true rfl⟩ c5) c6 ⟨rfl, rfl, Nat.le_of_ble_eq_true rfl, Nat.le_of_ble_eq_true rfl⟩ rfl ?_ (⟨⟨⟨ez0, (by show z' 1 + 1 = z 1 + 1; rw [ez1]), ez2⟩, ⟨e0, e1, e2, e3, e4, e5, e8, e9, e10, e11, e12, u14, u15, u16, ?_, e22, e23⟩, (fun k hk => ?_)⟩, ⟨hOK, f1, f2, f3, (fun k hk => ?_), hE_add hY.2.2.2.2.2 (by omega) (by omega)⟩, ⟨hP3, hP22, hP0, hP23, hz0, (by show z 1 + 1 ≤ 40; omega), hz2⟩, ⟨hS9, hS10⟩, hC⟩)
              · show nI (mvd dF dL (g' 17) (g' 18) (z' 0)) = nI (dMV _ _ _ (g 12) (g 13) (g 17) (g 18) (z 1 + 1))
                rw [e17, ez0]
                refine congrArg nI ?_
                have hhi := mvd_hi (n := z 0) (F := itF (upd (g 14) (z 1) (nI i)) (upd (g 15) (z 1) (nI j)) (upd (g 16) (z 1) p2) (g 12) (z 1 + 1) 16) (L := itL (upd (g 14) (z 1) (nI i)) (upd (g 15) (z 1) (nI j)) (upd (g 16) (z 1) p2) (g 13) (z 1 + 1) 16) (F0 := g 17) (L0 := g 18) (fun k hk => by
                  obtain ⟨a1, a2, a3, a4⟩ := hY.2.2.2.2.1 k hk
                  rw [(ot k hk).1, (ot k hk).2, a1, a2, a3, a4]
                  exact ⟨rfl, rfl⟩) (16 - z 0)
                rw [show z 0 + (16 - z 0) = 16 by omega] at hhi
                rw [dMV, hhi]
                exact mvd_cg (z 0) (fun k hk => ⟨(f4 k hk).1, (f4 k hk).2, rfl, (h13 k hk).2⟩)
              · funext k
                show (if k < z' 0 then dF k else g' 17 k) = itF (upd (g 14) (z 1) (nI i)) (upd (g 15) (z 1) (nI j)) (upd (g 16) (z 1) p2) (g 12) (z 1 + 1) 16 k
                by_cases c : k < z 0
                · rw [if_pos (by omega)]; exact (f4 k c).1
                · obtain ⟨a1, a2, a3, a4⟩ := hY.2.2.2.2.1 k (by omega)
                  rw [if_neg (by omega), e17, (ot k (by omega)).1, a1, a3]
              · refine ⟨(h13 k hk).1, ?_⟩
                have hk2 : k < z 0 := hk
                show (if k < z' 0 then dL k else g' 18 k) = itL (upd (g 14) (z 1) (nI i)) (upd (g 15) (z 1) (nI j)) (upd (g 16) (z 1) p2) (g 13) (z 1 + 1) 16 k
                rw [if_pos (by omega)]; exact (f4 k hk2).2
              · obtain ⟨a1, a2, a3, a4⟩ := hY.2.2.2.2.1 k hk
                exact ⟨a1, a2, (ot k hk).1.trans a1, (ot k hk).2.trans a2⟩
            | false =>
              have c5 := c_X5_aheadx6 l htr D cA ad g z i j p2 hi hj hz0 hij hw hY.2.2.2.2.2 h40 d3
              rw [d3] at c5
              have c6 := c_X6_aheadx6 l D cA ad' g' z' i j p2 u0 dF dL (by omega) (by omega) (by omega) hij hw hE6 (by omega) d1' d2'
              refine st_thr (k := 3) (by omega) (by omega) (wx_ahead_ise l D cA cL ad g _ z _ o f (nI i) (nI j) p2 _ ⟨rfl, rfl, Nat.le_of_ble_eq_true rfl, Nat.le_of_ble_eq_true rfl⟩ c5) c6 ⟨rfl, rfl, Nat.le_of_ble_eq_true rfl, Nat.le_of_ble_eq_true rfl⟩ rfl (⟨⟨⟨ez0, ez1, ez2⟩, ⟨e0, e1, e2, e3, e4, e5, e8, e9, e10, e11, e12, u14, u15, u16, e17, e22, e23⟩, h13⟩, ?_, ⟨hP3, hP22, hP0, hP23, hz0, hz1, hz2⟩, ⟨hS9, hS10⟩, hC⟩)
              refine rY_ext (g := g) (fun k hk => ?_) rfl rfl rfl rfl hY
              have hk2 : k < z 1 := hk
              exact ⟨upd_o (by omega), upd_o (by omega), upd_o (by omega)⟩
          · exact st_thr (k := 3) (by omega) (by omega) (wx_ahead_ise l D cA cL ad g _ z _ o f (nI i) (nI j) p2 _ ⟨rfl, rfl, Nat.le_of_ble_eq_true rfl, Nat.le_of_ble_eq_true rfl⟩ (c_X5_aheadx5 l htr D cA ad g z i j p2 hi hj hz0 hij hw (by omega))) (c_X6_aheadx5 l D cA ad' g' z' i j p2 (by omega) (by omega) (by omega) hij hw (by omega)) ⟨rfl, rfl, Nat.le_of_ble_eq_true rfl, Nat.le_of_ble_eq_true rfl⟩ rfl (rR_4 hR)
        · obtain ⟨i, hi, rfl⟩ := h1
          obtain ⟨j, hj, rfl⟩ := h2
          have hij : ¬ i = j := fun q => hne (by rw [q])
          exact st_thr (k := 2) (by omega) (by omega) (wx_ahead_iae l D cA cL ad g _ z _ o f (nI i) (nI j) p2 _ ⟨rfl, rfl, Nat.le_of_ble_eq_true rfl, Nat.le_of_ble_eq_true rfl⟩ (c_X5_aheadx4 l htr D cA ad g z i j p2 hi hj hz0 hij hw)) (c_X6_aheadx3 l D cA ad' g' z' (nI i) (nI j) p2 (by omega) (q_r_nI (by omega)) (q_r_nI (by omega)) (Or.inr hw)) ⟨rfl, rfl, Nat.le_of_ble_eq_true rfl, Nat.le_of_ble_eq_true rfl⟩ rfl (rR_4 hR)
    · exact st_thr (k := 1) (by omega) (by omega) (wx_ahead_iob l D cA cL ad g _ z _ o f p0 p1 p2 _ ⟨rfl, rfl, Nat.le_of_ble_eq_true rfl, Nat.le_of_ble_eq_true rfl⟩ (c_X5_aheadx2 l htr D cA ad g z p0 p1 p2 h1 h2 hz0)) (c_X6_aheadx l D cA ad' g' z' p0 p1 p2 (by omega) (fun q => h2 (by rw [ez0] at q; exact q.2))) ⟨rfl, rfl, Nat.le_of_ble_eq_true rfl, Nat.le_of_ble_eq_true rfl⟩ rfl (rR_4 hR)
  · exact st_thr (k := 1) (by omega) (by omega) (wx_ahead_iob l D cA cL ad g _ z _ o f p0 p1 p2 _ ⟨rfl, rfl, Nat.le_of_ble_eq_true rfl, Nat.le_of_ble_eq_true rfl⟩ (c_X5_aheadx l htr D cA ad g z p0 p1 p2 h1 hz0)) (c_X6_aheadx l D cA ad' g' z' p0 p1 p2 (by omega) (fun q => h1 (by rw [ez0] at q; exact q.1))) ⟨rfl, rfl, Nat.le_of_ble_eq_true rfl, Nat.le_of_ble_eq_true rfl⟩ rfl (rR_4 hR)
set_option maxRecDepth 100000 in
set_option maxHeartbeats 4000000 in
theorem st_find (l : Launch) (htr : l.stackTraces = false) (D : va_G) (cA cL : ClassId) (ad ad' : Nat → Nat) (o : Nat) (f : Nat → Int64) (g : Nat → Nat → Int32) (z : Nat → Nat) (g' : Nat → Nat → Int32) (z' : Nat → Nat) (hR : rRel g z g' z') (p0 : Int32) (p1 : Int32) (p2 : Int32) : q_ST l D cA cL yL_find [Cond.codeWith yL_find cL_find 6 (some .int) [(0, 12, 15, 13), (0, 12, 19, 15), (0, 12, 23, 17)]] [.ref (ad 70), .int p0, .int p1, .int p2, .ref o] yX6_find [Cond.code yX6_find cX6_find 5 (some .int)] [.ref (ad' 80), .int p0, .int p1, .int p2] ad ad' o false g z g' z' f := by
  obtain ⟨⟨⟨ez0, ez1, ez2⟩, ⟨e0, e1, e2, e3, e4, e5, e8, e9, e10, e11, e12, e14, e15, e16, e17, e22, e23⟩, h13⟩, hY, ⟨hP3, hP22, hP0, hP23, hz0, hz1, hz2⟩, ⟨hS9, hS10⟩, hC⟩ := hR
  have hR : rRel g z g' z' := ⟨⟨⟨ez0, ez1, ez2⟩, ⟨e0, e1, e2, e3, e4, e5, e8, e9, e10, e11, e12, e14, e15, e16, e17, e22, e23⟩, h13⟩, hY, ⟨hP3, hP22, hP0, hP23, hz0, hz1, hz2⟩, ⟨hS9, hS10⟩, hC⟩
  by_cases h1 : q_r p0 (z 0)
  · by_cases h2 : (¬ p1 < nI 0 ∧ p1 ≤ nI 999) ∧ (¬ p2 < p1 ∧ p2 ≤ nI 999)
    · obtain ⟨i, hi, rfl⟩ := h1
      have hE6 : ∀ k, k < z' 1 → q_r (g' 14 k) 16 ∧ q_r (g' 15 k) 16 := fun k hk => by rw [e14, e15]; exact hY.2.2.2.2.2 k (by omega)
      obtain ⟨lo2, hlo2⟩ : ∃ y, y = mx (g 12 i) p1 := ⟨_, rfl⟩
      obtain ⟨hi2, hhi2⟩ : ∃ y, y = mn (g 13 i) p2 := ⟨_, rfl⟩
      have hOK := yOK_nar (k := i) hY h2.1 h2.2
      rw [← hlo2, ← hhi2] at hOK
      have hx9 : ∀ j, z 0 ≤ j → j < 16 → upd (g 12) i lo2 j ≤ upd (g 13) i hi2 j := fun j hj hj2 => by rw [upd_o (by omega), upd_o (by omega)]; exact rY_hx hY j hj hj2
      have hh9 : ∀ j, j < z 0 → upd (g' 13) i hi2 j = upd (g 13) i hi2 j := fun j hj => by
        show (if j = i then hi2 else g' 13 j) = (if j = i then hi2 else g 13 j)
        rw [(h13 j hj).1]
      obtain ⟨u0, dF, dL, bb, d1, d2, d3, d4⟩ := dt_both (g' 19) (g' 20) hOK hz0 hz1 hx9 hh9
      have d1' : dtH u0 (g' 14) (g' 15) (g' 16) (upd (g' 12) i lo2) (upd (g' 13) i hi2) (g' 19) (g' 20) (z' 1) (z' 0) := by rw [e14, e15, e16, e12, ez0, ez1]; exact d1
      have d2' : (dtD u0 (g' 14) (g' 15) (g' 16) (upd (g' 12) i lo2) (upd (g' 13) i hi2) (g' 19) (g' 20) (z' 1) (z' 0)).1 = dF ∧ (dtD u0 (g' 14) (g' 15) (g' 16) (upd (g' 12) i lo2) (upd (g' 13) i hi2) (g' 19) (g' 20) (z' 1) (z' 0)).2.1 = dL ∧ (dtD u0 (g' 14) (g' 15) (g' 16) (upd (g' 12) i lo2) (upd (g' 13) i hi2) (g' 19) (g' 20) (z' 1) (z' 0)).2.2.1 = bb := by rw [e14, e15, e16, e12, ez0, ez1]; exact d2
      have l6 : lo2 = mx (g' 12 i) p1 := by rw [e12]; exact hlo2
      have h6 : hi2 = mn (g' 13 i) p2 := by rw [(h13 i hi).1]; exact hhi2
      have ot := fun (k : Nat) (hk : z 0 ≤ k) => it_out (W := g 16) (lo := upd (g 12) i lo2) (hi := upd (g 13) i hi2) hOK.1 hk 16
      have om : ∀ k, z 0 ≤ k → itF (g 14) (g 15) (g 16) (upd (g 12) i lo2) (z 1) 16 k = g 17 k ∧ itL (g 14) (g 15) (g 16) (upd (g 13) i hi2) (z 1) 16 k = g 18 k := fun k hk => by
        obtain ⟨a1, a2, a3, a4⟩ := hY.2.2.2.2.1 k hk
        rw [(ot k hk).1, (ot k hk).2, upd_o (by omega), upd_o (by omega), a1, a2, a3, a4]
        exact ⟨rfl, rfl⟩
      have hmv : bb = true → mvd dF dL (g' 17) (g' 18) (z' 0) = dMV (g 14) (g 15) (g 16) (upd (g 12) i lo2) (upd (g 13) i hi2) (g 17) (g 18) (z 1) := fun hb => by
        obtain ⟨f1, f2, f3, f4⟩ := d4 hb
        rw [e17, ez0]
        have hhi := mvd_hi (n := z 0) (F := itF (g 14) (g 15) (g 16) (upd (g 12) i lo2) (z 1) 16) (L := itL (g 14) (g 15) (g 16) (upd (g 13) i hi2) (z 1) 16) (F0 := g 17) (L0 := g 18) om (16 - z 0)
        rw [show z 0 + (16 - z 0) = 16 by omega] at hhi
        rw [dMV, hhi]
        exact mvd_cg (z 0) (fun k hk => ⟨(f4 k hk).1, (f4 k hk).2, rfl, (h13 k hk).2⟩)
      cases bb with
      | true =>
        obtain ⟨f1, f2, f3, f4⟩ := d4 rfl
        have c5 := c_X5_find l D cA ad g z i p1 p2 hi hz0 h2.1 h2.2 hY.2.2.2.2.2 hz1 (by rw [← hlo2, ← hhi2]; exact d3)
        rw [← hlo2, ← hhi2, d3] at c5
        have c6 := c_X6_find l D cA ad' g' z' i p1 p2 u0 dF dL lo2 hi2 (by omega) (by omega) h2.1 h2.2 hE6 (by omega) l6 h6 d1' d2'
        refine st_ok (wo_find l D cA cL ad g _ z _ o f (nI i) p1 p2 _ _ ⟨rfl, rfl, Nat.le_of_ble_eq_true rfl, Nat.le_of_ble_eq_true rfl⟩ c5) c6 ⟨rfl, rfl, Nat.le_of_ble_eq_true rfl, Nat.le_of_ble_eq_true rfl⟩ rfl (congrArg nI (hmv rfl)) (⟨⟨⟨ez0, ez1, ez2⟩, ⟨e0, e1, e2, e3, e4, e5, e8, e9, e10, e11, ?_, e14, e15, e16, ?_, e22, e23⟩, (fun k hk => ?_)⟩, ⟨hOK, f1, f2, f3, (fun k hk => ?_), hY.2.2.2.2.2⟩, ⟨hP3, hP22, hP0, hP23, hz0, hz1, hz2⟩, ⟨hS9, hS10⟩, hC⟩)
        · show upd (g' 12) i lo2 = upd (g 12) i lo2
          rw [e12]
        · funext k
          show (if k < z' 0 then dF k else g' 17 k) = itF (g 14) (g 15) (g 16) (upd (g 12) i lo2) (z 1) 16 k
          by_cases c : k < z 0
          · rw [if_pos (by omega)]; exact (f4 k c).1
          · rw [if_neg (by omega), e17]; exact (om k (by omega)).1.symm
        · have hk2 : k < z 0 := hk
          refine ⟨hh9 k hk2, ?_⟩
          show (if k < z' 0 then dL k else g' 18 k) = itL (g 14) (g 15) (g 16) (upd (g 13) i hi2) (z 1) 16 k
          rw [if_pos (by omega)]; exact (f4 k hk2).2
        · have hk2 : z 0 ≤ k := hk
          obtain ⟨a1, a2, a3, a4⟩ := hY.2.2.2.2.1 k hk2
          exact ⟨(upd_o (by omega)).trans a1, (upd_o (by omega)).trans a2, (om k hk2).1.trans a3, (om k hk2).2.trans a4⟩
      | false =>
        have c5 := c_X5_findx4 l htr D cA ad g z i p1 p2 hi hz0 h2.1 h2.2 hY.2.2.2.2.2 hz1 (by rw [← hlo2, ← hhi2]; exact d3)
        rw [← hlo2, ← hhi2, d3] at c5
        have c6 := c_X6_findx4 l D cA ad' g' z' i p1 p2 u0 dF dL lo2 hi2 (by omega) (by omega) h2.1 h2.2 hE6 (by omega) l6 h6 d1' d2'
        exact st_thr (k := 3) (by omega) (by omega) (wx_find_ise l D cA cL ad g _ z _ o f (nI i) p1 p2 _ ⟨rfl, rfl, Nat.le_of_ble_eq_true rfl, Nat.le_of_ble_eq_true rfl⟩ c5) c6 ⟨rfl, rfl, Nat.le_of_ble_eq_true rfl, Nat.le_of_ble_eq_true rfl⟩ rfl (⟨⟨⟨ez0, ez1, ez2⟩, ⟨e0, e1, e2, e3, e4, e5, e8, e9, e10, e11, e12, e14, e15, e16, e17, e22, e23⟩, h13⟩, hY, ⟨hP3, hP22, hP0, hP23, hz0, hz1, hz2⟩, ⟨hS9, hS10⟩, hC⟩)
    · by_cases hlo : ¬ p1 < nI 0 ∧ p1 ≤ nI 999
      · exact st_thr (k := 2) (by omega) (by omega) (wx_find_iae l D cA cL ad g _ z _ o f p0 p1 p2 _ ⟨rfl, rfl, Nat.le_of_ble_eq_true rfl, Nat.le_of_ble_eq_true rfl⟩ (c_X5_findx3 l htr D cA ad g z p0 p1 p2 h1 hz0 hlo (fun q => h2 ⟨hlo, q⟩))) (c_X6_findx2 l D cA ad' g' z' p0 p1 p2 (by rw [ez0]; exact h1) (by omega) h2) ⟨rfl, rfl, Nat.le_of_ble_eq_true rfl, Nat.le_of_ble_eq_true rfl⟩ rfl (rR_4 hR)
      · exact st_thr (k := 2) (by omega) (by omega) (wx_find_iae l D cA cL ad g _ z _ o f p0 p1 p2 _ ⟨rfl, rfl, Nat.le_of_ble_eq_true rfl, Nat.le_of_ble_eq_true rfl⟩ (c_X5_findx2 l htr D cA ad g z p0 p1 p2 h1 hz0 hlo)) (c_X6_findx2 l D cA ad' g' z' p0 p1 p2 (by rw [ez0]; exact h1) (by omega) h2) ⟨rfl, rfl, Nat.le_of_ble_eq_true rfl, Nat.le_of_ble_eq_true rfl⟩ rfl (rR_4 hR)
  · exact st_thr (k := 1) (by omega) (by omega) (wx_find_iob l D cA cL ad g _ z _ o f p0 p1 p2 _ ⟨rfl, rfl, Nat.le_of_ble_eq_true rfl, Nat.le_of_ble_eq_true rfl⟩ (c_X5_findx l htr D cA ad g z p0 p1 p2 h1 hz0)) (c_X6_findx l D cA ad' g' z' p0 p1 p2 (fun q => h1 (by rw [ez0] at q; exact q)) (by omega)) ⟨rfl, rfl, Nat.le_of_ble_eq_true rfl, Nat.le_of_ble_eq_true rfl⟩ rfl (rR_4 hR)
set_option maxRecDepth 100000 in
set_option maxHeartbeats 4000000 in
theorem st_wouldMove (l : Launch) (htr : l.stackTraces = false) (D : va_G) (cA cL : ClassId) (ad ad' : Nat → Nat) (o : Nat) (f : Nat → Int64) (g : Nat → Nat → Int32) (z : Nat → Nat) (g' : Nat → Nat → Int32) (z' : Nat → Nat) (hR : rRel g z g' z') (p0 : Int32) (p1 : Int32) (p2 : Int32) : q_ST l D cA cL yL_wouldMove [Cond.codeWith yL_wouldMove cL_wouldMove 6 (some .int) [(0, 12, 15, 13), (0, 12, 19, 15)]] [.ref (ad 70), .int p0, .int p1, .int p2, .ref o] yX6_wouldMove [Cond.code yX6_wouldMove cX6_wouldMove 4 (some .int)] [.ref (ad' 80), .int p0, .int p1, .int p2] ad ad' o false g z g' z' f := by
  obtain ⟨⟨⟨ez0, ez1, ez2⟩, ⟨e0, e1, e2, e3, e4, e5, e8, e9, e10, e11, e12, e14, e15, e16, e17, e22, e23⟩, h13⟩, hY, ⟨hP3, hP22, hP0, hP23, hz0, hz1, hz2⟩, ⟨hS9, hS10⟩, hC⟩ := hR
  have hR : rRel g z g' z' := ⟨⟨⟨ez0, ez1, ez2⟩, ⟨e0, e1, e2, e3, e4, e5, e8, e9, e10, e11, e12, e14, e15, e16, e17, e22, e23⟩, h13⟩, hY, ⟨hP3, hP22, hP0, hP23, hz0, hz1, hz2⟩, ⟨hS9, hS10⟩, hC⟩
  by_cases h1 : q_r p0 (z 0)
  · by_cases h2 : (¬ p1 < nI 0 ∧ p1 ≤ nI 999) ∧ (¬ p2 < p1 ∧ p2 ≤ nI 999)
    · obtain ⟨i, hi, rfl⟩ := h1
      have hE6 : ∀ k, k < z' 1 → q_r (g' 14 k) 16 ∧ q_r (g' 15 k) 16 := fun k hk => by rw [e14, e15]; exact hY.2.2.2.2.2 k (by omega)
      obtain ⟨lo2, hlo2⟩ : ∃ y, y = mx (g 12 i) p1 := ⟨_, rfl⟩
      obtain ⟨hi2, hhi2⟩ : ∃ y, y = mn (g 13 i) p2 := ⟨_, rfl⟩
      have hOK := yOK_nar (k := i) hY h2.1 h2.2
      rw [← hlo2, ← hhi2] at hOK
      have hx9 : ∀ j, z 0 ≤ j → j < 16 → upd (g 12) i lo2 j ≤ upd (g 13) i hi2 j := fun j hj hj2 => by rw [upd_o (by omega), upd_o (by omega)]; exact rY_hx hY j hj hj2
      have hh9 : ∀ j, j < z 0 → upd (g' 13) i hi2 j = upd (g 13) i hi2 j := fun j hj => by
        show (if j = i then hi2 else g' 13 j) = (if j = i then hi2 else g 13 j)
        rw [(h13 j hj).1]
      obtain ⟨u0, dF, dL, bb, d1, d2, d3, d4⟩ := dt_both (g' 19) (g' 20) hOK hz0 hz1 hx9 hh9
      have d1' : dtH u0 (g' 14) (g' 15) (g' 16) (upd (g' 12) i lo2) (upd (g' 13) i hi2) (g' 19) (g' 20) (z' 1) (z' 0) := by rw [e14, e15, e16, e12, ez0, ez1]; exact d1
      have d2' : (dtD u0 (g' 14) (g' 15) (g' 16) (upd (g' 12) i lo2) (upd (g' 13) i hi2) (g' 19) (g' 20) (z' 1) (z' 0)).1 = dF ∧ (dtD u0 (g' 14) (g' 15) (g' 16) (upd (g' 12) i lo2) (upd (g' 13) i hi2) (g' 19) (g' 20) (z' 1) (z' 0)).2.1 = dL ∧ (dtD u0 (g' 14) (g' 15) (g' 16) (upd (g' 12) i lo2) (upd (g' 13) i hi2) (g' 19) (g' 20) (z' 1) (z' 0)).2.2.1 = bb := by rw [e14, e15, e16, e12, ez0, ez1]; exact d2
      have l6 : lo2 = mx (g' 12 i) p1 := by rw [e12]; exact hlo2
      have h6 : hi2 = mn (g' 13 i) p2 := by rw [(h13 i hi).1]; exact hhi2
      have ot := fun (k : Nat) (hk : z 0 ≤ k) => it_out (W := g 16) (lo := upd (g 12) i lo2) (hi := upd (g 13) i hi2) hOK.1 hk 16
      have om : ∀ k, z 0 ≤ k → itF (g 14) (g 15) (g 16) (upd (g 12) i lo2) (z 1) 16 k = g 17 k ∧ itL (g 14) (g 15) (g 16) (upd (g 13) i hi2) (z 1) 16 k = g 18 k := fun k hk => by
        obtain ⟨a1, a2, a3, a4⟩ := hY.2.2.2.2.1 k hk
        rw [(ot k hk).1, (ot k hk).2, upd_o (by omega), upd_o (by omega), a1, a2, a3, a4]
        exact ⟨rfl, rfl⟩
      have hmv : bb = true → mvd dF dL (g' 17) (g' 18) (z' 0) = dMV (g 14) (g 15) (g 16) (upd (g 12) i lo2) (upd (g 13) i hi2) (g 17) (g 18) (z 1) := fun hb => by
        obtain ⟨f1, f2, f3, f4⟩ := d4 hb
        rw [e17, ez0]
        have hhi := mvd_hi (n := z 0) (F := itF (g 14) (g 15) (g 16) (upd (g 12) i lo2) (z 1) 16) (L := itL (g 14) (g 15) (g 16) (upd (g 13) i hi2) (z 1) 16) (F0 := g 17) (L0 := g 18) om (16 - z 0)
        rw [show z 0 + (16 - z 0) = 16 by omega] at hhi
        rw [dMV, hhi]
        exact mvd_cg (z 0) (fun k hk => ⟨(f4 k hk).1, (f4 k hk).2, rfl, (h13 k hk).2⟩)
      have c5 := c_X5_wouldMove l D cA ad g z i p1 p2 hi hz0 h2.1 h2.2 hY.2.2.2.2.2 hz1
      rw [← hlo2, ← hhi2, d3] at c5
      cases bb with
      | true =>
        have c6 := c_X6_wouldMove l D cA ad' g' z' i p1 p2 u0 dF dL lo2 hi2 (by omega) (by omega) h2.1 h2.2 hE6 (by omega) l6 h6 d1' d2'
        exact st_ok (wo_wouldMove l D cA cL ad g _ z _ o f (nI i) p1 p2 _ _ ⟨rfl, rfl, Nat.le_of_ble_eq_true rfl, Nat.le_of_ble_eq_true rfl⟩ c5) c6 ⟨rfl, rfl, Nat.le_of_ble_eq_true rfl, Nat.le_of_ble_eq_true rfl⟩ rfl (congrArg nI (hmv rfl)) (⟨⟨⟨ez0, ez1, ez2⟩, ⟨e0, e1, e2, e3, e4, e5, e8, e9, e10, e11, e12, e14, e15, e16, e17, e22, e23⟩, h13⟩, hY, ⟨hP3, hP22, hP0, hP23, hz0, hz1, hz2⟩, ⟨hS9, hS10⟩, hC⟩)
      | false =>
        have c6 := c_X6_wouldMoven l D cA ad' g' z' i p1 p2 u0 dF dL lo2 hi2 (by omega) (by omega) h2.1 h2.2 hE6 (by omega) l6 h6 d1' d2'
        exact st_ok (wo_wouldMove l D cA cL ad g _ z _ o f (nI i) p1 p2 _ _ ⟨rfl, rfl, Nat.le_of_ble_eq_true rfl, Nat.le_of_ble_eq_true rfl⟩ c5) c6 ⟨rfl, rfl, Nat.le_of_ble_eq_true rfl, Nat.le_of_ble_eq_true rfl⟩ rfl rfl (⟨⟨⟨ez0, ez1, ez2⟩, ⟨e0, e1, e2, e3, e4, e5, e8, e9, e10, e11, e12, e14, e15, e16, e17, e22, e23⟩, h13⟩, hY, ⟨hP3, hP22, hP0, hP23, hz0, hz1, hz2⟩, ⟨hS9, hS10⟩, hC⟩)
    · by_cases hlo : ¬ p1 < nI 0 ∧ p1 ≤ nI 999
      · exact st_thr (k := 2) (by omega) (by omega) (wx_wouldMove_iae l D cA cL ad g _ z _ o f p0 p1 p2 _ ⟨rfl, rfl, Nat.le_of_ble_eq_true rfl, Nat.le_of_ble_eq_true rfl⟩ (c_X5_wouldMovex3 l htr D cA ad g z p0 p1 p2 h1 hz0 hlo (fun q => h2 ⟨hlo, q⟩))) (c_X6_wouldMovex2 l D cA ad' g' z' p0 p1 p2 (by rw [ez0]; exact h1) (by omega) h2) ⟨rfl, rfl, Nat.le_of_ble_eq_true rfl, Nat.le_of_ble_eq_true rfl⟩ rfl (rR_4 hR)
      · exact st_thr (k := 2) (by omega) (by omega) (wx_wouldMove_iae l D cA cL ad g _ z _ o f p0 p1 p2 _ ⟨rfl, rfl, Nat.le_of_ble_eq_true rfl, Nat.le_of_ble_eq_true rfl⟩ (c_X5_wouldMovex2 l htr D cA ad g z p0 p1 p2 h1 hz0 hlo)) (c_X6_wouldMovex2 l D cA ad' g' z' p0 p1 p2 (by rw [ez0]; exact h1) (by omega) h2) ⟨rfl, rfl, Nat.le_of_ble_eq_true rfl, Nat.le_of_ble_eq_true rfl⟩ rfl (rR_4 hR)
  · exact st_thr (k := 1) (by omega) (by omega) (wx_wouldMove_iob l D cA cL ad g _ z _ o f p0 p1 p2 _ ⟨rfl, rfl, Nat.le_of_ble_eq_true rfl, Nat.le_of_ble_eq_true rfl⟩ (c_X5_wouldMovex l htr D cA ad g z p0 p1 p2 h1 hz0)) (c_X6_wouldMovex l D cA ad' g' z' p0 p1 p2 (fun q => h1 (by rw [ez0] at q; exact q)) (by omega)) ⟨rfl, rfl, Nat.le_of_ble_eq_true rfl, Nat.le_of_ble_eq_true rfl⟩ rfl (rR_4 hR)
