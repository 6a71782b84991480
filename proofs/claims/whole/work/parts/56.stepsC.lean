theorem df_ok {g g' : Nat → Nat → Int32} {z z' : Nat → Nat} (h : rE g z g' z') : dmO g' (z' 0) = dfO g (z 0) (z 0) := by
  obtain ⟨⟨ez0, -, -⟩, ⟨e0, e1, e2, e3, e4, e5, e8, e9, e10, e11, e12, e14, e15, e16, e17, e22, e23⟩, -⟩ := h
  rw [ez0, dmO_cg e4 e22, dfO_dm]
theorem choM_lop {x : Int32} {f : Nat → Int32} : ∀ K, bitC x K ≤ 6 → choM x f K = lopM x f K
  | 0, _ => rfl
  | K + 1, h => by
    have hm := bitC_mono x (j := K) (K + 1) (by omega)
    rw [choM, lopM, choM_lop K (by omega)]
    rw [bitC] at h
    by_cases c : hasB x (nI K) = true
    · rw [if_pos c] at h
      rw [if_pos ⟨c, by omega⟩, if_pos c]
    · rw [if_neg (fun q => c q.1), if_neg c]
theorem lop_st {x : Int32} {f f' : Nat → Int32} : ∀ K j, j < bitC x K → lopM x f K j = lopM x f' K j
  | 0, j, h => by rw [bitC] at h; omega
  | K + 1, j, h => by
    rw [lopM, lopM]
    rw [bitC] at h
    by_cases c : hasB x (nI K) = true
    · rw [if_pos c] at h
      rw [if_pos c, if_pos c]
      simp only [upd]
      by_cases e : j = bitC x K
      · rw [if_pos e, if_pos e]
      · rw [if_neg e, if_neg e]; exact lop_st K j (by omega)
    · rw [if_neg c] at h
      rw [if_neg c, if_neg c]
      exact lop_st K j h
theorem lop_hi {n k : Nat} {f : Nat → Int32} (hn : n < 2 ^ k) (hk : k ≤ 16) : ∀ d, k + d ≤ 16 → lopM (nI n) f (k + d) = lopM (nI n) f k
  | 0, _ => rfl
  | d + 1, hd => by
    have h1 : 2 ^ k ≤ 2 ^ 16 := Nat.pow_le_pow_right (by omega) hk
    have h2 : 2 ^ k ≤ 2 ^ (k + d) := Nat.pow_le_pow_right (by omega) (by omega)
    rw [← Nat.add_assoc, lopM, if_neg (by rw [hasB_bit (by omega) (by omega), Nat.div_eq_of_lt (by omega)]; decide)]
    exact lop_hi hn hk d (by omega)
theorem lpJ_at {ww : Nat → Nat → Int32} {pw : Nat → Int32} {i : Nat} : ∀ n a b, n ≤ 6 → b < 6 → lpJ ww pw i n (a * 6 + b) = if a = i ∧ i < b ∧ b < n then ww i b else pw (a * 6 + b)
  | 0, a, b, _, hb => by rw [lpJ, if_neg (by omega)]
  | n + 1, a, b, hn, hb => by
    rw [lpJ]
    by_cases c : i < n
    · rw [if_pos c]
      simp only [upd]
      by_cases e : a * 6 + b = i * 6 + n
      · have ea : a = i := by omega
        have eb : b = n := by omega
        rw [if_pos e, if_pos ⟨ea, by omega, by omega⟩, eb]
      · rw [if_neg e, lpJ_at n a b (by omega) hb]
        by_cases d : a = i ∧ i < b ∧ b < n
        · rw [if_pos d, if_pos ⟨d.1, d.2.1, by omega⟩]
        · rw [if_neg d, if_neg (fun q => d ⟨q.1, q.2.1, by have := q.2.2; have h9 := q.1; omega⟩)]
    · rw [if_neg c, lpJ_at n a b (by omega) hb]
      by_cases d : a = i ∧ i < b ∧ b < n
      · rw [if_pos d, if_pos ⟨d.1, d.2.1, by omega⟩]
      · rw [if_neg d, if_neg (fun q => d ⟨q.1, q.2.1, by have := q.2.2; have h9 := q.2.1; omega⟩)]
theorem lpO_at {ww : Nat → Nat → Int32} {pw : Nat → Int32} {n a b : Nat} (hn : n ≤ 6) (hab : a < b) (hb : b < n) : ∀ m, a < m → lpO ww pw n m (a * 6 + b) = ww a b
  | 0, h => by omega
  | m + 1, h => by
    rw [lpO, lpJ_at n a b hn (by omega)]
    by_cases e : a = m
    · subst e
      rw [if_pos ⟨rfl, hab, hb⟩]
    · rw [if_neg (fun q => e q.1)]
      exact lpO_at hn hab hb m (by omega)
theorem wop_v {g : Nat → Nat → Int32} {i j : Nat} : (wop g i j).toInt = -1000000 ∨ (-3 ≤ (wop g i j).toInt ∧ (wop g i j).toInt ≤ 10) := by
  have h := wtN_le g i j
  unfold wop
  split
  · exact Or.inl no_int
  · rw [pk_sub_toInt (by omega) (by omega)]
    exact Or.inr (by omega)
theorem wop_wp {g g' : Nat → Nat → Int32} {i j : Nat} (e0 : g' 0 = g 0) (e1 : g' 1 = g 1) (e2 : g' 2 = g 2) (e3 : g' 3 = g 3) (e9 : g' 9 = g 9) (e10 : g' 10 = g 10) (h9 : symB (g 9)) (h10 : symB (g 10)) (hi : i < 16) (hj : j < 16) : wpM g' j i = wop g i j := by
  unfold wpM wop
  rw [wtN_cg e0 e1 e2 e3 e9, e1, e10, wtN_c h9 hj hi, hof_c (g 1 j) (g 1 i), h10 j i hj hi]
  by_cases c : hasB (g 10 i) (nI j) = true ∨ hof (g 1 i) (g 1 j) = true
  · rw [if_pos c, if_pos (by rw [Bool.or_eq_true]; exact c.symm)]
  · rw [if_neg c, if_neg (by rw [Bool.or_eq_true]; exact fun q => c q.symm)]
set_option maxHeartbeats 4000000 in
theorem bs_ok {g g' : Nat → Nat → Int32} {z z' : Nat → Nat} {n : Nat} (hR : rRel g z g' z') (hn : n < 2 ^ z 0) (hb : pcN n ≤ 6) : ∃ (ch WW : Nat → Int32) (tb : Nat → Nat → Int32), choM (nI n) (g' 24) 16 = ch ∧ (∀ q, wmO g' ch (nI q) 6 = WW q) ∧ upd (g' 27) 0 (nI 0) = tb 0 ∧ (∀ k, upd (tb k) (k + 1) (gbI WW (tb k) (k + 1) (k + 1) (k + 1) (-1000000)) = tb (k + 1)) ∧ bitC (nI n) 16 = pcN n ∧ (∀ k, k < 6 → q_r (ch k) 16) ∧
    tb (2 ^ pcN n - 1) (2 ^ pcN n - 1) = bpB (lpO (wopM g (lopM (nI n) (g 24) (z 0))) (g 25) (bitC (nI n) (z 0)) (bitC (nI n) (z 0))) (g 26) (g 27) (bitC (nI n) (z 0)) (2 ^ (bitC (nI n) (z 0)) - 1) (2 ^ (bitC (nI n) (z 0)) - 1) ∧
    tb (2 ^ pcN n - 1) (2 ^ pcN n - 1) = baF (lpO (wopM g (lopM (nI n) (g 24) (z 0))) (g 25) (bitC (nI n) (z 0)) (bitC (nI n) (z 0))) (bitC (nI n) (z 0)) 202 (fun _ => nI 0) (wOf (groT (fun _ => nI 0)) (lpO (wopM g (lopM (nI n) (g 24) (z 0))) (g 25) (bitC (nI n) (z 0)) (bitC (nI n) (z 0))) (bitC (nI n) (z 0))) := by
  obtain ⟨⟨-, ⟨e0, e1, e2, e3, e4, e5, e8, e9, e10, e11, e12, e14, e15, e16, e17, e22, e23⟩, -⟩, -, ⟨-, -, -, -, hz0, -, -⟩, ⟨hS9, hS10⟩, hC⟩ := hR
  have p16 : 2 ^ z 0 ≤ 2 ^ 16 := Nat.pow_le_pow_right (by omega) hz0
  have b1 : bitC (nI n) (z 0) = pcN n := bitC_pcN hn hz0
  have b2 : bitC (nI n) 16 = pcN n := bitC_pcN (by omega) (by omega)
  obtain ⟨c, hc⟩ : ∃ c, c = pcN n := ⟨_, rfl⟩
  rw [← hc] at b1 b2 hb
  rw [b1, b2, ← hc]
  obtain ⟨me, hme⟩ : ∃ me, me = lopM (nI n) (g 24) (z 0) := ⟨_, rfl⟩
  rw [← hme]
  have hmr : ∀ j, j < c → q_r (me j) 16 := fun j hj => by rw [hme]; exact lopM_r (nI n) (g 24) (z 0) hz0 j (by omega)
  have hch : ∀ j, j < c → choM (nI n) (g' 24) 16 j = me j := fun j hj => by
    have h := lop_hi (f := g 24) hn hz0 (16 - z 0) (by omega)
    rw [show z 0 + (16 - z 0) = 16 by omega] at h
    rw [choM_lop 16 (by omega), hme, ← lop_st (f := g 24) (f' := g' 24) 16 j (by omega), h]
  have hx : xOK (fun m k => (wop g (q_n (me m)) (q_n (me k))).toInt) c := fun m k h1 h2 => wop_v
  have hp : ∀ i j, i < j → j < c → (lpO (wopM g me) (g 25) c c (i * 6 + j)).toInt = (wop g (q_n (me i)) (q_n (me j))).toInt := fun i j h1 h2 => by rw [lpO_at hb h1 h2 c (by omega)]; rfl
  have hW : ∀ q, 0 < q → q < 2 ^ c → (wmO g' (choM (nI n) (g' 24) 16) (nI q) 6).toInt = sumT (fun m k => (wop g (q_n (me m)) (q_n (me k))).toInt) (sT q) c := fun q h0 hq => wmO_s hx hq hb (fun m k h1 h2 => by
    rw [hch m (by omega), hch k h2, wop_wp e0 e1 e2 e3 e9 e10 hS9 hS10 ((hmr m (by omega)).lt (by omega)) ((hmr k h2).lt (by omega))])
  obtain ⟨d1, M, m0, m1, m2, m3⟩ := dp_all (pw := lpO (wopM g me) (g 25) c c) (gw := g 26) (be := g 27) (f0 := g' 27) (W := fun q => wmO g' (choM (nI n) (g' 24) 16) (nI q) 6) (tb := grT (fun q => wmO g' (choM (nI n) (g' 24) 16) (nI q) 6) (g' 27)) hx hb hp hW rfl (fun k => rfl)
  refine ⟨_, fun q => wmO g' (choM (nI n) (g' 24) 16) (nI q) 6, grT (fun q => wmO g' (choM (nI n) (g' 24) 16) (nI q) 6) (g' 27), rfl, fun q => rfl, rfl, fun k => rfl, rfl, choM_r hC 16 (Nat.le_refl _), d1.symm, ?_⟩
  rw [zz_eq, m2]
  exact (an_ok hx hb hp ⟨m0, m1, m3⟩).symm
theorem bs_in {w : Int32} {k : Nat} (hk : k ≤ 16) (h : ¬ w < nI 0 ∧ w ≤ nI (2 ^ k - 1)) : ∃ n, n < 2 ^ k ∧ w = nI n := by
  have p16 : 2 ^ k ≤ 2 ^ 16 := Nat.pow_le_pow_right (by omega) hk
  have p1 : 1 ≤ 2 ^ k := Nat.one_le_two_pow
  obtain ⟨n, hn, rfl⟩ := nI_of (x := w) h.1
  have h2 := (nI_leI (by omega) (by omega)).1 h.2
  exact ⟨n, by omega, rfl⟩
theorem bs_sh {w : Int32} {k : Nat} (hk : k ≤ 16) (h : w >>> (nI k &&& 31) = 0) : ∃ n, n < 2 ^ k ∧ w = nI n := by
  have e : ∀ k, k ≤ 16 → nI k &&& 31 = nI k ∧ ((nI k).toBitVec.smod 32).toNat = k := by decide +kernel
  rw [(e k hk).1] at h
  have p16 : 2 ^ k ≤ 2 ^ 16 := Nat.pow_le_pow_right (by omega) hk
  have h0 := congrArg Int32.toInt h
  rw [pk_shr w (nI k) k (e k hk).2, Int.shiftRight_eq_div_pow] at h0
  have h0 : w.toInt / ((2 ^ k : Nat) : Int) = 0 := h0
  have p1 : 1 ≤ 2 ^ k := Nat.one_le_two_pow
  obtain ⟨P, hP⟩ : ∃ P, P = 2 ^ k := ⟨_, rfl⟩
  rw [← hP] at h0 p1 p16 ⊢
  have a1 := Int.emod_add_mul_ediv w.toInt P
  have a2 := Int.emod_nonneg w.toInt (show ((P : Nat) : Int) ≠ 0 by omega)
  have a3 := Int.emod_lt_of_pos w.toInt (show 0 < ((P : Nat) : Int) by omega)
  rw [h0, Int.mul_zero, Int.add_zero] at a1
  have hn0 : ¬ w < 0 := fun q => by have := Int32.lt_iff_toInt_lt.mp q; rw [show (0 : Int32).toInt = 0 from rfl] at this; omega
  obtain ⟨n, hn, rfl⟩ := nI_of hn0
  refine ⟨n, ?_, rfl⟩
  rw [nI_toInt (by omega)] at a1 a3
  omega
set_option maxRecDepth 100000 in
set_option maxHeartbeats 4000000 in
theorem st_careerAt (l : Launch) (htr : l.stackTraces = false) (D : va_G) (cA cL : ClassId) (ad ad' : Nat → Nat) (o : Nat) (f : Nat → Int64) (g : Nat → Nat → Int32) (z : Nat → Nat) (g' : Nat → Nat → Int32) (z' : Nat → Nat) (hR : rRel g z g' z') (p0 : Int32) (p1 : Int32) : q_ST l D cA cL yL_careerAt [Cond.codeWith yL_careerAt cL_careerAt 5 (some .int) [(0, 10, 13, 13)]] [.ref (ad 70), .int p0, .int p1, .ref o] yX6_careerAt [Cond.code yX6_careerAt cX6_careerAt 3 (some .int)] [.ref (ad' 80), .int p0, .int p1] ad ad' o false g z g' z' f := by
  obtain ⟨⟨⟨ez0, ez1, ez2⟩, ⟨e0, e1, e2, e3, e4, e5, e8, e9, e10, e11, e12, e14, e15, e16, e17, e22, e23⟩, h13⟩, hY, ⟨hP3, hP22, hP0, hP23, hz0, hz1, hz2⟩, ⟨hS9, hS10⟩, hC⟩ := hR
  have hR : rRel g z g' z' := ⟨⟨⟨ez0, ez1, ez2⟩, ⟨e0, e1, e2, e3, e4, e5, e8, e9, e10, e11, e12, e14, e15, e16, e17, e22, e23⟩, h13⟩, hY, ⟨hP3, hP22, hP0, hP23, hz0, hz1, hz2⟩, ⟨hS9, hS10⟩, hC⟩
  by_cases h1 : q_r p0 (z 2)
  · obtain ⟨i, hi, rfl⟩ := h1
    by_cases h2 : p1 < 0
    · exact st_thr (k := 1) (by omega) (by omega) (wx_careerAt_iob l D cA cL ad g _ z _ o f (nI i) p1 _ ⟨rfl, rfl, Nat.le_of_ble_eq_true rfl, Nat.le_of_ble_eq_true rfl⟩ (c_X5_careerAtx2 l htr D cA ad g z i p1 hi hz2 h2)) (c_X6_careerAtx l D cA ad' g' z' (nI i) p1 (by omega) (fun q => q.2 h2)) ⟨rfl, rfl, Nat.le_of_ble_eq_true rfl, Nat.le_of_ble_eq_true rfl⟩ rfl (rR_4 hR)
    · obtain ⟨pl, hpl, rfl⟩ := nI_of h2
      exact st_ok (wo_careerAt l D cA cL ad g _ z _ o f (nI i) (nI pl) _ _ ⟨rfl, rfl, Nat.le_of_ble_eq_true rfl, Nat.le_of_ble_eq_true rfl⟩ (c_X5_careerAt l D cA ad g z i pl hi hz2 hz0 hpl)) (c_X6_careerAt l D cA ad' g' z' i pl (by omega) (by omega) (by omega) hpl) ⟨rfl, rfl, Nat.le_of_ble_eq_true rfl, Nat.le_of_ble_eq_true rfl⟩ rfl (by rw [e23, ez0, icF_cg e22 e3 e17, car_ok hz0]) (⟨⟨⟨ez0, ez1, ez2⟩, ⟨e0, e1, e2, e3, e4, e5, e8, e9, e10, e11, e12, e14, e15, e16, e17, e22, e23⟩, h13⟩, hY, ⟨hP3, hP22, hP0, hP23, hz0, hz1, hz2⟩, ⟨hS9, hS10⟩, hC⟩)
  · exact st_thr (k := 1) (by omega) (by omega) (wx_careerAt_iob l D cA cL ad g _ z _ o f p0 p1 _ ⟨rfl, rfl, Nat.le_of_ble_eq_true rfl, Nat.le_of_ble_eq_true rfl⟩ (c_X5_careerAtx l htr D cA ad g z p0 p1 h1 hz2)) (c_X6_careerAtx l D cA ad' g' z' p0 p1 (by omega) (fun q => h1 (by rw [ez2] at q; exact q.1))) ⟨rfl, rfl, Nat.le_of_ble_eq_true rfl, Nat.le_of_ble_eq_true rfl⟩ rfl (rR_4 hR)
set_option maxRecDepth 100000 in
set_option maxHeartbeats 4000000 in
theorem st_breaches (l : Launch) (htr : l.stackTraces = false) (D : va_G) (cA cL : ClassId) (ad ad' : Nat → Nat) (o : Nat) (f : Nat → Int64) (g : Nat → Nat → Int32) (z : Nat → Nat) (g' : Nat → Nat → Int32) (z' : Nat → Nat) (hR : rRel g z g' z') (p0 : Int32) : q_ST l D cA cL yL_breaches [Cond.codeWith yL_breaches cL_breaches 4 (some .int) [(0, 9, 12, 13)]] [.ref (ad 70), .int p0, .ref o] yX6_breaches [Cond.code yX6_breaches cX6_breaches 6 (some .int)] [.ref (ad' 80), .int p0] ad ad' o false g z g' z' f := by
  obtain ⟨⟨⟨ez0, ez1, ez2⟩, ⟨e0, e1, e2, e3, e4, e5, e8, e9, e10, e11, e12, e14, e15, e16, e17, e22, e23⟩, h13⟩, hY, ⟨hP3, hP22, hP0, hP23, hz0, hz1, hz2⟩, ⟨hS9, hS10⟩, hC⟩ := hR
  have hR : rRel g z g' z' := ⟨⟨⟨ez0, ez1, ez2⟩, ⟨e0, e1, e2, e3, e4, e5, e8, e9, e10, e11, e12, e14, e15, e16, e17, e22, e23⟩, h13⟩, hY, ⟨hP3, hP22, hP0, hP23, hz0, hz1, hz2⟩, ⟨hS9, hS10⟩, hC⟩
  by_cases h1 : q_r p0 (z 2)
  · obtain ⟨i, hi, rfl⟩ := h1
    exact st_ok (wo_breaches l D cA cL ad g _ z _ o f (nI i) _ _ ⟨rfl, rfl, Nat.le_of_ble_eq_true rfl, Nat.le_of_ble_eq_true rfl⟩ (c_X5_breaches l D cA ad g z i hi hz2 hz0)) (c_X6_breaches l D cA ad' g' z' i (by omega) (by omega) (by omega) (fun k hk => by rw [e3]; exact hP3 k (by omega))) ⟨rfl, rfl, Nat.le_of_ble_eq_true rfl, Nat.le_of_ble_eq_true rfl⟩ rfl (by rw [e23, ez0, icF_cg e22 e3 e17, bmR_cg e22 e3 e17 e5, br_ok hz0 hP3]) (⟨⟨⟨ez0, ez1, ez2⟩, ⟨e0, e1, e2, e3, e4, e5, e8, e9, e10, e11, e12, e14, e15, e16, e17, e22, e23⟩, h13⟩, hY, ⟨hP3, hP22, hP0, hP23, hz0, hz1, hz2⟩, ⟨hS9, hS10⟩, hC⟩)
  · exact st_thr (k := 1) (by omega) (by omega) (wx_breaches_iob l D cA cL ad g _ z _ o f p0 _ ⟨rfl, rfl, Nat.le_of_ble_eq_true rfl, Nat.le_of_ble_eq_true rfl⟩ (c_X5_breachesx l htr D cA ad g z p0 h1 hz2)) (c_X6_breachesx l D cA ad' g' z' p0 (fun q => h1 (by rw [ez2] at q; exact q)) (by omega)) ⟨rfl, rfl, Nat.le_of_ble_eq_true rfl, Nat.le_of_ble_eq_true rfl⟩ rfl (rR_4 hR)
set_option maxRecDepth 100000 in
set_option maxHeartbeats 4000000 in
theorem st_degree (l : Launch) (htr : l.stackTraces = false) (D : va_G) (cA cL : ClassId) (ad ad' : Nat → Nat) (o : Nat) (f : Nat → Int64) (g : Nat → Nat → Int32) (z : Nat → Nat) (g' : Nat → Nat → Int32) (z' : Nat → Nat) (hR : rRel g z g' z') (p0 : Int32) (p1 : Int32) : q_ST l D cA cL yL_degree [Cond.codeWith yL_degree cL_degree 5 (some .int) [(0, 10, 13, 13)]] [.ref (ad 70), .int p0, .int p1, .ref o] yX6_degree [Cond.code yX6_degree cX6_degree 6 (some .int)] [.ref (ad' 80), .int p0, .int p1] ad ad' o false g z g' z' f := by
  obtain ⟨⟨⟨ez0, ez1, ez2⟩, ⟨e0, e1, e2, e3, e4, e5, e8, e9, e10, e11, e12, e14, e15, e16, e17, e22, e23⟩, h13⟩, hY, ⟨hP3, hP22, hP0, hP23, hz0, hz1, hz2⟩, ⟨hS9, hS10⟩, hC⟩ := hR
  have hR : rRel g z g' z' := ⟨⟨⟨ez0, ez1, ez2⟩, ⟨e0, e1, e2, e3, e4, e5, e8, e9, e10, e11, e12, e14, e15, e16, e17, e22, e23⟩, h13⟩, hY, ⟨hP3, hP22, hP0, hP23, hz0, hz1, hz2⟩, ⟨hS9, hS10⟩, hC⟩
  by_cases h1 : q_r p0 (z 2)
  · by_cases h2 : q_r p1 (z 2)
    · obtain ⟨i, hi, rfl⟩ := h1
      obtain ⟨j, hj, rfl⟩ := h2
      exact st_ok (wo_degree l D cA cL ad g _ z _ o f (nI i) (nI j) _ _ ⟨rfl, rfl, Nat.le_of_ble_eq_true rfl, Nat.le_of_ble_eq_true rfl⟩ (c_X5_degree l D cA ad g z i j hi hj hz2 hz0 (fun k hk => q_r_mono (hP22 k hk) hz2) (fun k hk => q_r_mono (hP23 k hk) hz2))) (c_X6_degree l D cA ad' g' z' i j (by omega) (by omega) (by omega) (by omega) (fun k hk => by rw [e22]; exact q_r_mono (hP22 k (by omega)) hz2) (fun k hk => by rw [e23]; exact q_r_mono (hP23 k (by omega)) hz2)) ⟨rfl, rfl, Nat.le_of_ble_eq_true rfl, Nat.le_of_ble_eq_true rfl⟩ rfl (by rw [e22, e11, e23, ez0]; exact (dg_ok (fun k hk => q_r_mono (hP22 k hk) hz2) hz0 ((hP23 j hj).lt (by omega) |> fun q => by omega)).symm) (⟨⟨⟨ez0, ez1, ez2⟩, ⟨e0, e1, e2, e3, e4, e5, e8, e9, e10, e11, e12, e14, e15, e16, e17, e22, e23⟩, h13⟩, hY, ⟨hP3, hP22, hP0, hP23, hz0, hz1, hz2⟩, ⟨hS9, hS10⟩, hC⟩)
    · exact st_thr (k := 1) (by omega) (by omega) (wx_degree_iob l D cA cL ad g _ z _ o f p0 p1 _ ⟨rfl, rfl, Nat.le_of_ble_eq_true rfl, Nat.le_of_ble_eq_true rfl⟩ (c_X5_degreex2 l htr D cA ad g z p0 p1 h1 h2 hz2)) (c_X6_degreex l D cA ad' g' z' p0 p1 (fun q => h2 (by rw [ez2] at q; exact q.2)) (by omega)) ⟨rfl, rfl, Nat.le_of_ble_eq_true rfl, Nat.le_of_ble_eq_true rfl⟩ rfl (rR_4 hR)
  · exact st_thr (k := 1) (by omega) (by omega) (wx_degree_iob l D cA cL ad g _ z _ o f p0 p1 _ ⟨rfl, rfl, Nat.le_of_ble_eq_true rfl, Nat.le_of_ble_eq_true rfl⟩ (c_X5_degreex l htr D cA ad g z p0 p1 h1 hz2)) (c_X6_degreex l D cA ad' g' z' p0 p1 (fun q => h1 (by rw [ez2] at q; exact q.1)) (by omega)) ⟨rfl, rfl, Nat.le_of_ble_eq_true rfl, Nat.le_of_ble_eq_true rfl⟩ rfl (rR_4 hR)
set_option maxRecDepth 100000 in
set_option maxHeartbeats 4000000 in
theorem st_best (l : Launch) (htr : l.stackTraces = false) (D : va_G) (cA cL : ClassId) (ad ad' : Nat → Nat) (o : Nat) (f : Nat → Int64) (g : Nat → Nat → Int32) (z : Nat → Nat) (g' : Nat → Nat → Int32) (z' : Nat → Nat) (hR : rRel g z g' z') (p0 : Int32) : q_ST l D cA cL yL_best [Cond.codeWith yL_best cL_best 4 (some .int) [(0, 9, 12, 15)]] [.ref (ad 70), .int p0, .ref o] yX6_best [Cond.code yX6_best cX6_best 2 (some .int)] [.ref (ad' 80), .int p0] ad ad' o false g z g' z' f := by
  obtain ⟨⟨⟨ez0, ez1, ez2⟩, ⟨e0, e1, e2, e3, e4, e5, e8, e9, e10, e11, e12, e14, e15, e16, e17, e22, e23⟩, h13⟩, hY, ⟨hP3, hP22, hP0, hP23, hz0, hz1, hz2⟩, ⟨hS9, hS10⟩, hC⟩ := hR
  have hR : rRel g z g' z' := ⟨⟨⟨ez0, ez1, ez2⟩, ⟨e0, e1, e2, e3, e4, e5, e8, e9, e10, e11, e12, e14, e15, e16, e17, e22, e23⟩, h13⟩, hY, ⟨hP3, hP22, hP0, hP23, hz0, hz1, hz2⟩, ⟨hS9, hS10⟩, hC⟩
  by_cases h1 : ∃ n, n < 2 ^ z 0 ∧ p0 = nI n
  · obtain ⟨n, hn, rfl⟩ := h1
    have b16 : bitC (nI n) 16 = pcN n := bitC_pcN (Nat.lt_of_lt_of_le hn (Nat.pow_le_pow_right (by omega) hz0)) (by omega)
    by_cases h2 : pcN n ≤ 6
    · obtain ⟨ch, WW, tb, d1, d2, d3, d4, d5, d6, d7, d8⟩ := bs_ok hR hn h2
      exact st_ok (wo_best l D cA cL ad g _ z _ o f (nI n) _ _ ⟨rfl, rfl, Nat.le_of_ble_eq_true rfl, Nat.le_of_ble_eq_true rfl⟩ (c_X5_best l D cA ad g z n hn h2 hz0)) (c_X6_best l D cA ad' g' z' n (pcN n) (2 ^ pcN n) ch WW tb (by rw [ez0]; exact hn) d5 h2 rfl (by omega) hC d1 d2 d3 d4) ⟨rfl, rfl, Nat.le_of_ble_eq_true rfl, Nat.le_of_ble_eq_true rfl⟩ rfl (d7) (⟨⟨⟨ez0, ez1, ez2⟩, ⟨e0, e1, e2, e3, e4, e5, e8, e9, e10, e11, e12, e14, e15, e16, e17, e22, e23⟩, h13⟩, hY, ⟨hP3, hP22, hP0, hP23, hz0, hz1, hz2⟩, ⟨hS9, hS10⟩, d6⟩)
    ·  exact st_thr (k := 1) (by omega) (by omega) (wx_best_iae l D cA cL ad g _ z _ o f (nI n) _ ⟨rfl, rfl, Nat.le_of_ble_eq_true rfl, Nat.le_of_ble_eq_true rfl⟩ (c_X5_bestx2 l htr D cA ad g z n hn (by omega) hz0)) (c_X6_bestx l D cA ad' g' z' (nI n) (by omega) (fun q => by have := q.2; rw [b16] at this; omega)) ⟨rfl, rfl, Nat.le_of_ble_eq_true rfl, Nat.le_of_ble_eq_true rfl⟩ rfl (⟨⟨⟨ez0, ez1, ez2⟩, ⟨e0, e1, e2, e3, e4, e5, e8, e9, e10, e11, e12, e14, e15, e16, e17, e22, e23⟩, h13⟩, hY, ⟨hP3, hP22, hP0, hP23, hz0, hz1, hz2⟩, ⟨hS9, hS10⟩, choM_r hC 16 (Nat.le_refl _)⟩)
  ·  exact st_thr (k := 1) (by omega) (by omega) (wx_best_iae l D cA cL ad g _ z _ o f p0 _ ⟨rfl, rfl, Nat.le_of_ble_eq_true rfl, Nat.le_of_ble_eq_true rfl⟩ (c_X5_bestx l htr D cA ad g z p0 (fun q => h1 (bs_sh hz0 q)))) (c_X6_bestx l D cA ad' g' z' p0 (by omega) (fun q => h1 (by rw [ez0] at q; exact bs_in hz0 q.1))) ⟨rfl, rfl, Nat.le_of_ble_eq_true rfl, Nat.le_of_ble_eq_true rfl⟩ rfl (⟨⟨⟨ez0, ez1, ez2⟩, ⟨e0, e1, e2, e3, e4, e5, e8, e9, e10, e11, e12, e14, e15, e16, e17, e22, e23⟩, h13⟩, hY, ⟨hP3, hP22, hP0, hP23, hz0, hz1, hz2⟩, ⟨hS9, hS10⟩, choM_r hC 16 (Nat.le_refl _)⟩)
set_option maxRecDepth 100000 in
set_option maxHeartbeats 4000000 in
theorem st_bestAnew (l : Launch) (htr : l.stackTraces = false) (D : va_G) (cA cL : ClassId) (ad ad' : Nat → Nat) (o : Nat) (f : Nat → Int64) (g : Nat → Nat → Int32) (z : Nat → Nat) (g' : Nat → Nat → Int32) (z' : Nat → Nat) (hR : rRel g z g' z') (p0 : Int32) : q_ST l D cA cL yL_bestAnew [Cond.codeWith yL_bestAnew cL_bestAnew 4 (some .int) [(0, 9, 12, 15)]] [.ref (ad 70), .int p0, .ref o] yX6_bestAnew [Cond.code yX6_bestAnew cX6_bestAnew 2 (some .int)] [.ref (ad' 80), .int p0] ad ad' o false g z g' z' f := by
  obtain ⟨⟨⟨ez0, ez1, ez2⟩, ⟨e0, e1, e2, e3, e4, e5, e8, e9, e10, e11, e12, e14, e15, e16, e17, e22, e23⟩, h13⟩, hY, ⟨hP3, hP22, hP0, hP23, hz0, hz1, hz2⟩, ⟨hS9, hS10⟩, hC⟩ := hR
  have hR : rRel g z g' z' := ⟨⟨⟨ez0, ez1, ez2⟩, ⟨e0, e1, e2, e3, e4, e5, e8, e9, e10, e11, e12, e14, e15, e16, e17, e22, e23⟩, h13⟩, hY, ⟨hP3, hP22, hP0, hP23, hz0, hz1, hz2⟩, ⟨hS9, hS10⟩, hC⟩
  by_cases h1 : ∃ n, n < 2 ^ z 0 ∧ p0 = nI n
  · obtain ⟨n, hn, rfl⟩ := h1
    have b16 : bitC (nI n) 16 = pcN n := bitC_pcN (Nat.lt_of_lt_of_le hn (Nat.pow_le_pow_right (by omega) hz0)) (by omega)
    by_cases h2 : pcN n ≤ 6
    · obtain ⟨ch, WW, tb, d1, d2, d3, d4, d5, d6, d7, d8⟩ := bs_ok hR hn h2
      exact st_ok (wo_bestAnew l D cA cL ad g _ z _ o f (nI n) _ _ ⟨rfl, rfl, Nat.le_of_ble_eq_true rfl, Nat.le_of_ble_eq_true rfl⟩ (c_X5_bestAnew l D cA ad g z n hn h2 hz0)) (c_X6_bestAnew l D cA ad' g' z' n (pcN n) (2 ^ pcN n) ch WW tb (by rw [ez0]; exact hn) d5 h2 rfl (by omega) hC d1 d2 d3 d4) ⟨rfl, rfl, Nat.le_of_ble_eq_true rfl, Nat.le_of_ble_eq_true rfl⟩ rfl (d8) (⟨⟨⟨ez0, ez1, ez2⟩, ⟨e0, e1, e2, e3, e4, e5, e8, e9, e10, e11, e12, e14, e15, e16, e17, e22, e23⟩, h13⟩, hY, ⟨hP3, hP22, hP0, hP23, hz0, hz1, hz2⟩, ⟨hS9, hS10⟩, d6⟩)
    ·  exact st_thr (k := 1) (by omega) (by omega) (wx_bestAnew_iae l D cA cL ad g _ z _ o f (nI n) _ ⟨rfl, rfl, Nat.le_of_ble_eq_true rfl, Nat.le_of_ble_eq_true rfl⟩ (c_X5_bestAnewx2 l htr D cA ad g z n hn (by omega) hz0)) (c_X6_bestAnewx l D cA ad' g' z' (nI n) (by omega) (fun q => by have := q.2; rw [b16] at this; omega)) ⟨rfl, rfl, Nat.le_of_ble_eq_true rfl, Nat.le_of_ble_eq_true rfl⟩ rfl (⟨⟨⟨ez0, ez1, ez2⟩, ⟨e0, e1, e2, e3, e4, e5, e8, e9, e10, e11, e12, e14, e15, e16, e17, e22, e23⟩, h13⟩, hY, ⟨hP3, hP22, hP0, hP23, hz0, hz1, hz2⟩, ⟨hS9, hS10⟩, choM_r hC 16 (Nat.le_refl _)⟩)
  ·  exact st_thr (k := 1) (by omega) (by omega) (wx_bestAnew_iae l D cA cL ad g _ z _ o f p0 _ ⟨rfl, rfl, Nat.le_of_ble_eq_true rfl, Nat.le_of_ble_eq_true rfl⟩ (c_X5_bestAnewx l htr D cA ad g z p0 (fun q => h1 (bs_sh hz0 q)))) (c_X6_bestAnewx l D cA ad' g' z' p0 (by omega) (fun q => h1 (by rw [ez0] at q; exact bs_in hz0 q.1))) ⟨rfl, rfl, Nat.le_of_ble_eq_true rfl, Nat.le_of_ble_eq_true rfl⟩ rfl (⟨⟨⟨ez0, ez1, ez2⟩, ⟨e0, e1, e2, e3, e4, e5, e8, e9, e10, e11, e12, e14, e15, e16, e17, e22, e23⟩, h13⟩, hY, ⟨hP3, hP22, hP0, hP23, hz0, hz1, hz2⟩, ⟨hS9, hS10⟩, choM_r hC 16 (Nat.le_refl _)⟩)
