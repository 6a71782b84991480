/-! what a call answers, by the rows that count alone -/
section CG
variable {g g' : Nat → Nat → Int32}
theorem wtN_cg {i j : Nat} (e0 : g' 0 = g 0) (e1 : g' 1 = g 1) (e2 : g' 2 = g 2) (e3 : g' 3 = g 3) (e9 : g' 9 = g 9) : wtN g' i j = wtN g i j := by unfold wtN; rw [e0, e1, e2, e3, e9]
theorem rop_cg {i j : Nat} (e1 : g' 1 = g 1) (e3 : g' 3 = g 3) (e8 : g' 8 = g 8) (e10 : g' 10 = g 10) (e17 : g' 17 = g 17) (e18 : g' 18 = g 18) : rop g' i j = rop g i j := by unfold rop abo; rw [e1, e3, e8, e10, e17, e18]
theorem raN_cg {i : Nat} {w : Int32} (e1 : g' 1 = g 1) (e3 : g' 3 = g 3) (e8 : g' 8 = g 8) (e10 : g' 10 = g 10) (e17 : g' 17 = g 17) (e18 : g' 18 = g 18) (e22 : g' 22 = g 22) : ∀ k, raN g' i w k = raN g i w k
  | 0 => rfl
  | k + 1 => by rw [raN, raN, raN_cg e1 e3 e8 e10 e17 e18 e22 k, rop_cg e1 e3 e8 e10 e17 e18, e22]
theorem raA_cg {c0 i j : Nat} (e0 : g' 0 = g 0) (e1 : g' 1 = g 1) (e2 : g' 2 = g 2) (e3 : g' 3 = g 3) (e8 : g' 8 = g 8) (e9 : g' 9 = g 9) (e10 : g' 10 = g 10) (e17 : g' 17 = g 17) (e18 : g' 18 = g 18) (e22 : g' 22 = g 22) : ∀ k, raA g' c0 i j k = raA g c0 i j k
  | 0 => by rw [raA, raA, wtN_cg e0 e1 e2 e3 e9]
  | k + 1 => by rw [raA, raA, raA_cg e0 e1 e2 e3 e8 e9 e10 e17 e18 e22 k, raN_cg e1 e3 e8 e10 e17 e18 e22, e22]
theorem raG_cg {c0 i j : Nat} (e0 : g' 0 = g 0) (e1 : g' 1 = g 1) (e2 : g' 2 = g 2) (e3 : g' 3 = g 3) (e8 : g' 8 = g 8) (e9 : g' 9 = g 9) (e10 : g' 10 = g 10) (e17 : g' 17 = g 17) (e18 : g' 18 = g 18) (e22 : g' 22 = g 22) : raG g' c0 i j = raG g c0 i j := by
  unfold raG
  rw [raA_cg e0 e1 e2 e3 e8 e9 e10 e17 e18 e22, e22]
theorem layL_cg {w : Int32} (e3 : g' 3 = g 3) (e22 : g' 22 = g 22) : ∀ k, layL g' w k = layL g w k
  | 0 => rfl
  | k + 1 => by rw [layL, layL, layL_cg e3 e22 k, e3, e22]
theorem insC_cg {F : Nat → Int32} {x : Nat} : ∀ (p : Nat) (cr cr' : Nat → Int32), (∀ i, i < p → cr i = cr' i) → ∀ j, j ≤ p → insC F cr x p j = insC F cr' x p j
  | 0, cr, cr', h, j, hj => by
    have : j = 0 := by omega
    subst this
    rw [insC, insC]
    show (if (0 : Nat) = 0 then _ else _) = (if (0 : Nat) = 0 then _ else _)
    rw [if_pos rfl, if_pos rfl]
  | p + 1, cr, cr', h, j, hj => by
    have e := h p (by omega)
    rw [insC, insC, e]
    by_cases c : F x < F (q_n (cr' p))
    · rw [if_pos c, if_pos c]
      rcases Nat.lt_or_ge p j with q | q
      · have : j = p + 1 := by omega
        subst this
        rw [insC_hi p _ _ (by omega), insC_hi p _ _ (by omega)]
        show (if p + 1 = p + 1 then _ else _) = (if p + 1 = p + 1 then _ else _)
        rw [if_pos rfl, if_pos rfl]
      · refine insC_cg p _ _ (fun i hi => ?_) j q
        show (if i = p + 1 then _ else cr i) = (if i = p + 1 then _ else cr' i)
        rw [if_neg (by omega), if_neg (by omega)]
        exact h i (by omega)
    · rw [if_neg c, if_neg c]
      show (if j = p + 1 then _ else cr j) = (if j = p + 1 then _ else cr' j)
      by_cases q : j = p + 1
      · rw [if_pos q, if_pos q]
      · rw [if_neg q, if_neg q]
        exact h j (by omega)
theorem layR_cg {w : Int32} (e3 : g' 3 = g 3) (e17 : g' 17 = g 17) (e22 : g' 22 = g 22) : ∀ k p, p < layL g w k → layR g' w k p = layR g w k p
  | 0, p, hp => absurd hp (Nat.not_lt_zero p)
  | k + 1, p, hp => by
    rw [layL] at hp
    rw [layR, layR, layL_cg e3 e22 k, e3, e17, e22]
    by_cases c : g 22 k = w ∧ ¬ g 3 k = (-1)
    · rw [if_pos c] at hp
      rw [if_pos c, if_pos c]
      exact insC_cg _ _ _ (fun i hi => layR_cg e3 e17 e22 k i hi) p (by omega)
    · rw [if_neg c] at hp
      rw [if_neg c, if_neg c]
      exact layR_cg e3 e17 e22 k p hp
theorem brN_cg {f f' : Nat → Int32} : ∀ n, (∀ k, k < n → f k = f' k) → brN f n = brN f' n
  | 0, _ => rfl
  | n + 1, h => by rw [brN, brN, brN_cg n (fun k hk => h k (by omega)), h n (by omega), h (n - 1) (by omega)]
theorem dfJ_cg {i : Nat} (e4 : g' 4 = g 4) (e22 : g' 22 = g 22) : ∀ k, dfJ g' i k = dfJ g i k
  | 0 => rfl
  | k + 1 => by rw [dfJ, dfJ, dfJ_cg e4 e22 k, e4, e22]
theorem dfO_cg {n : Nat} (e4 : g' 4 = g 4) (e22 : g' 22 = g 22) : ∀ k, dfO g' n k = dfO g n k
  | 0 => rfl
  | k + 1 => by rw [dfO, dfO, dfO_cg e4 e22 k, dfJ_cg e4 e22]
end CG
/-! a telling, a find: what stands behind -/
abbrev ahG (g : Nat → Nat → Int32) (z : Nat → Nat) (i j : Nat) (w : Int32) : Nat → Nat → Int32 := gs (gs (gs (gs (gs (gs (gs g 14 (upd (g 14) (z 1) (nI i))) 15 (upd (g 15) (z 1) (nI j))) 16 (upd (g 16) (z 1) w)) 17 (itF (upd (g 14) (z 1) (nI i)) (upd (g 15) (z 1) (nI j)) (upd (g 16) (z 1) w) (g 12) (z 1 + 1) 16)) 18 (itL (upd (g 14) (z 1) (nI i)) (upd (g 15) (z 1) (nI j)) (upd (g 16) (z 1) w) (g 13) (z 1 + 1) 16)) 19 (itF (upd (g 14) (z 1) (nI i)) (upd (g 15) (z 1) (nI j)) (upd (g 16) (z 1) w) (g 12) (z 1 + 1) 16)) 20 (itL (upd (g 14) (z 1) (nI i)) (upd (g 15) (z 1) (nI j)) (upd (g 16) (z 1) w) (g 13) (z 1 + 1) 16)
abbrev axG (g : Nat → Nat → Int32) (z : Nat → Nat) (i j : Nat) (w : Int32) : Nat → Nat → Int32 := gs (gs (gs (gs (gs (gs (gs g 14 (upd (g 14) (z 1) (nI i))) 15 (upd (g 15) (z 1) (nI j))) 16 (upd (g 16) (z 1) w)) 17 (g 17)) 18 (g 18)) 19 (itF (upd (g 14) (z 1) (nI i)) (upd (g 15) (z 1) (nI j)) (upd (g 16) (z 1) w) (g 12) (z 1 + 1) 16)) 20 (itL (upd (g 14) (z 1) (nI i)) (upd (g 15) (z 1) (nI j)) (upd (g 16) (z 1) w) (g 13) (z 1 + 1) 16)
abbrev ahD (g : Nat → Nat → Int32) (z : Nat → Nat) (i j : Nat) (w : Int32) : Bool := dOK (upd (g 14) (z 1) (nI i)) (upd (g 15) (z 1) (nI j)) (upd (g 16) (z 1) w) (g 12) (g 13) (z 1 + 1)
abbrev ahM (g : Nat → Nat → Int32) (z : Nat → Nat) (i j : Nat) (w : Int32) : Nat := dMV (upd (g 14) (z 1) (nI i)) (upd (g 15) (z 1) (nI j)) (upd (g 16) (z 1) w) (g 12) (g 13) (g 17) (g 18) (z 1 + 1)
abbrev fnG (g : Nat → Nat → Int32) (z : Nat → Nat) (i : Nat) (lo hi : Int32) : Nat → Nat → Int32 := gs (gs (gs (gs (gs (gs g 12 (upd (g 12) i (mx ((g 12) i) lo))) 13 (upd (g 13) i (mn ((g 13) i) hi))) 17 (itF (g 14) (g 15) (g 16) (upd (g 12) i (mx ((g 12) i) lo)) (z 1) 16)) 18 (itL (g 14) (g 15) (g 16) (upd (g 13) i (mn ((g 13) i) hi)) (z 1) 16)) 19 (itF (g 14) (g 15) (g 16) (upd (g 12) i (mx ((g 12) i) lo)) (z 1) 16)) 20 (itL (g 14) (g 15) (g 16) (upd (g 13) i (mn ((g 13) i) hi)) (z 1) 16)
abbrev fxG (g : Nat → Nat → Int32) (z : Nat → Nat) (i : Nat) (lo hi : Int32) : Nat → Nat → Int32 := gs (gs g 19 (itF (g 14) (g 15) (g 16) (upd (g 12) i (mx ((g 12) i) lo)) (z 1) 16)) 20 (itL (g 14) (g 15) (g 16) (upd (g 13) i (mn ((g 13) i) hi)) (z 1) 16)
abbrev fnD (g : Nat → Nat → Int32) (z : Nat → Nat) (i : Nat) (lo hi : Int32) : Bool := dOK (g 14) (g 15) (g 16) (upd (g 12) i (mx ((g 12) i) lo)) (upd (g 13) i (mn ((g 13) i) hi)) (z 1)
abbrev fnM (g : Nat → Nat → Int32) (z : Nat → Nat) (i : Nat) (lo hi : Int32) : Nat := dMV (g 14) (g 15) (g 16) (upd (g 12) i (mx ((g 12) i) lo)) (upd (g 13) i (mn ((g 13) i) hi)) (g 17) (g 18) (z 1)
section OY
variable {l : Launch} {D : va_G} {cA : ClassId} {ad : Nat → Nat} {g : Nat → Nat → Int32} {z : Nat → Nat}
theorem oy_ahead (hI : inv g z) {i j : Nat} {w : Int32} (hi : i < z 0) (hj : j < z 0) (hij : ¬ i = j) (hw : ¬ w < (-50) ∧ w ≤ nI 50) (h40 : z 1 < 40) (hd : ahD g z i j w = true) : q_CI l yX5_ahead [Cond.code yX5_ahead cX5_ahead 5 (some .int)] rm_X5_ahead D cA [.ref (ad 70), .int (nI i), .int (nI j), .int w] (rlW cA ad g z) (nI (ahM g z i j w)) (rlW cA ad (ahG g z i j w) (zs z 1 (z 1 + 1))) ∧ inv (ahG g z i j w) (zs z 1 (z 1 + 1)) := by
  have c5 := c_X5_ahead l D cA ad g z i j w hi hj hI.hz0 hij hw hI.hE h40 hd
  have h9 := hd
  unfold ahD at h9
  rw [h9] at c5
  exact ⟨c5, iv_ahead hI hi hj hw h40 _ _ hd⟩
theorem oy_aheadx (htr : l.stackTraces = false) (hI : inv g z) {i j : Nat} {w : Int32} (hi : i < z 0) (hj : j < z 0) (hij : ¬ i = j) (hw : ¬ w < (-50) ∧ w ≤ nI 50) (h40 : z 1 < 40) (hd : ahD g z i j w = false) : q_CX l yX5_ahead [Cond.code yX5_ahead cX5_ahead 5 (some .int)] rm_X5_aheadx6 D cA [.ref (ad 70), .int (nI i), .int (nI j), .int w] (rlW cA ad g z) "java/lang/IllegalStateException" (rlW cA ad (axG g z i j w) z) ∧ inv (axG g z i j w) z := by
  have c5 := c_X5_aheadx6 l htr D cA ad g z i j w hi hj hI.hz0 hij hw hI.hE h40 hd
  have h9 := hd
  unfold ahD at h9
  rw [h9] at c5
  have e : zs z 1 (bif false then z 1 + 1 else z 1) = z := funext fun k => by
    show (bif Nat.beq k 1 then z 1 else z k) = z k
    cases hb : Nat.beq k 1 with
    | false => rfl
    | true => rw [Nat.eq_of_beq_eq_true hb]; rfl
  rw [e] at c5
  exact ⟨c5, iv_aheadx hI h40 _ _⟩
theorem oy_find (hI : inv g z) {i : Nat} {lo hi : Int32} (hk : i < z 0) (hlo : ¬ lo < nI 0 ∧ lo ≤ nI 999) (hhi : ¬ hi < lo ∧ hi ≤ nI 999) (hd : fnD g z i lo hi = true) : q_CI l yX5_find [Cond.code yX5_find cX5_find 5 (some .int)] rm_X5_find D cA [.ref (ad 70), .int (nI i), .int lo, .int hi] (rlW cA ad g z) (nI (fnM g z i lo hi)) (rlW cA ad (fnG g z i lo hi) z) ∧ inv (fnG g z i lo hi) z := by
  have c5 := c_X5_find l D cA ad g z i lo hi hk hI.hz0 hlo hhi hI.hE hI.hz1 hd
  have h9 := hd
  unfold fnD at h9
  rw [h9] at c5
  exact ⟨c5, iv_find hI hk hlo hhi _ _ hd⟩
theorem gs_same {g : Nat → Nat → Int32} (k : Nat) : gs g k (g k) = g := funext fun j => by
  show (bif Nat.beq j k then g k else g j) = g j
  cases hb : Nat.beq j k with
  | false => rfl
  | true => rw [Nat.eq_of_beq_eq_true hb]; rfl
theorem oy_findx (htr : l.stackTraces = false) (hI : inv g z) {i : Nat} {lo hi : Int32} (hk : i < z 0) (hlo : ¬ lo < nI 0 ∧ lo ≤ nI 999) (hhi : ¬ hi < lo ∧ hi ≤ nI 999) (hd : fnD g z i lo hi = false) : q_CX l yX5_find [Cond.code yX5_find cX5_find 5 (some .int)] rm_X5_findx4 D cA [.ref (ad 70), .int (nI i), .int lo, .int hi] (rlW cA ad g z) "java/lang/IllegalStateException" (rlW cA ad (fxG g z i lo hi) z) ∧ inv (fxG g z i lo hi) z := by
  have c5 := c_X5_findx4 l htr D cA ad g z i lo hi hk hI.hz0 hlo hhi hI.hE hI.hz1 hd
  have h9 := hd
  unfold fnD at h9
  rw [h9] at c5
  have e : gs (gs (gs (gs g 12 (bif false then upd (g 12) i (mx ((g 12) i) lo) else g 12)) 13 (bif false then upd (g 13) i (mn ((g 13) i) hi) else g 13)) 17 (bif false then itF (g 14) (g 15) (g 16) (upd (g 12) i (mx ((g 12) i) lo)) (z 1) 16 else g 17)) 18 (bif false then itL (g 14) (g 15) (g 16) (upd (g 13) i (mn ((g 13) i) hi)) (z 1) 16 else g 18) = g := by
    show gs (gs (gs (gs g 12 (g 12)) 13 (g 13)) 17 (g 17)) 18 (g 18) = g
    rw [gs_same 12, gs_same 13, gs_same 17, gs_same 18]
  rw [e] at c5
  exact ⟨c5, hI⟩
theorem oy_wouldMove (hI : inv g z) {i : Nat} {lo hi : Int32} (hk : i < z 0) (hlo : ¬ lo < nI 0 ∧ lo ≤ nI 999) (hhi : ¬ hi < lo ∧ hi ≤ nI 999) : q_CI l yX5_wouldMove [Cond.code yX5_wouldMove cX5_wouldMove 4 (some .int)] rm_X5_wouldMove D cA [.ref (ad 70), .int (nI i), .int lo, .int hi] (rlW cA ad g z) (vd (fnD g z i lo hi) (fnM g z i lo hi)) (rlW cA ad (fxG g z i lo hi) z) ∧ inv (fxG g z i lo hi) z :=
  ⟨c_X5_wouldMove l D cA ad g z i lo hi hk hI.hz0 hlo hhi hI.hE hI.hz1, hI⟩
end OY
section CB
variable {l : Launch} {D : va_G} {cA : ClassId} {ad : Nat → Nat} {L : List (List Nat)}
abbrev ck2 (L : List (List Nat)) (i j : Nat) : Bool := (Nat.blt i (cZ L 0) && Nat.blt j (cZ L 0)) && !Nat.beq i j
theorem ck2_of {i j : Nat} (h : ck2 L i j = true) : i < cZ L 0 ∧ j < cZ L 0 ∧ ¬ i = j := by
  simp only [Bool.and_eq_true] at h
  exact ⟨ltB h.1.1, ltB h.1.2, neB h.2⟩
theorem band {a b : Bool} (h : (a && b) = true) : a = true ∧ b = true := by rw [Bool.and_eq_true] at h; exact h
theorem nq {a b : Nat} (h : Nat.beq a b = true) : nI a = nI b := congrArg nI (Nat.eq_of_beq_eq_true h)
theorem cs_weight (i j r : Nat) (h : (ck2 L i j && Nat.beq (wtN (cG L) i j) r) = true) : cst l yX5_weight [Cond.code yX5_weight cX5_weight 3 (some .int)] rm_X5_weight D cA ad [.int (nI i), .int (nI j)] L L (nI r) := by
  rintro g z ⟨g, z, rfl, rfl, hI⟩
  rw [Bool.and_eq_true] at h
  obtain ⟨h1, h2, h3⟩ := ck2_of h.1
  refine ⟨_, _, q_CIr (c_X5_weight l D cA ad (mixG L g) (mixZ L z) i j h1 h2 hI.hz0 h3) ?_, ⟨g, z, rfl, rfl, hI⟩⟩
  rw [wtN_cg (g' := mixG L g) (g := cG L) rfl rfl rfl rfl rfl]
  exact nq h.2
theorem cs_whyNot (i j r : Nat) (h : (ck2 L i j && Nat.beq (raG (cG L) (cZ L 0) i j) r) = true) : cst l yX5_whyNot [Cond.code yX5_whyNot cX5_whyNot 3 (some .int)] rm_X5_whyNot D cA ad [.int (nI i), .int (nI j)] L L (nI r) := by
  rintro g z ⟨g, z, rfl, rfl, hI⟩
  rw [Bool.and_eq_true] at h
  obtain ⟨h1, h2, h3⟩ := ck2_of h.1
  refine ⟨_, _, q_CIr (c_X5_whyNot l D cA ad (mixG L g) (mixZ L z) i j h1 h2 hI.hz0 h3) ?_, ⟨g, z, rfl, rfl, hI⟩⟩
  rw [raG_cg (g' := mixG L g) (g := cG L) rfl rfl rfl rfl rfl rfl rfl rfl rfl rfl]
  exact nq h.2
theorem cs_block (L' : List (List Nat)) (i j : Nat) (b r : Bool) (h : (ck2 L i j && ((hasB (cG L 10 i) (nI j) == r) && agB L' (gs (cG L) 10 (tellF b (cG L 10) i j)) (cZ L))) = true) : cst l yX5_block [Cond.code yX5_block cX5_block 4 (some .boolean)] rm_X5_block D cA ad [.int (nI i), .int (nI j), .int (q_b b)] L L' (q_b r) := by
  rintro g z ⟨g, z, rfl, rfl, hI⟩
  rw [Bool.and_eq_true, Bool.and_eq_true (_ == _)] at h
  obtain ⟨h1, h2, h3⟩ := ck2_of h.1
  exact ⟨_, _, q_CIr (c_X5_block l D cA ad (mixG L g) (mixZ L z) i j b h1 h2 hI.hz0 h3) (congrArg q_b (eq_of_beq h.2.1)), nx (pe_gs pe_mix) ⟨rfl, rfl, rfl⟩ (iv_block hI h1 h2) h.2.2⟩
theorem cs_kin (L' : List (List Nat)) (i j : Nat) (r : Bool) (h : (ck2 L i j && ((hasB (cG L 11 i) (nI j) == r) && agB L' (gs (cG L) 11 (tellF true (cG L 11) i j)) (cZ L))) = true) : cst l yX5_kin [Cond.code yX5_kin cX5_kin 3 (some .boolean)] rm_X5_kin D cA ad [.int (nI i), .int (nI j)] L L' (q_b r) := by
  rintro g z ⟨g, z, rfl, rfl, hI⟩
  rw [Bool.and_eq_true, Bool.and_eq_true (_ == _)] at h
  obtain ⟨h1, h2, h3⟩ := ck2_of h.1
  exact ⟨_, _, q_CIr (c_X5_kin l D cA ad (mixG L g) (mixZ L z) i j h1 h2 hI.hz0 h3) (congrArg q_b (eq_of_beq h.2.1)), nx (pe_gs pe_mix) ⟨rfl, rfl, rfl⟩ (iv_kin hI h1 h2) h.2.2⟩
theorem cs_bar (L' : List (List Nat)) (i j : Nat) (b r : Bool) (h : (((Nat.blt i 8 && Nat.blt j 8) && !Nat.beq i j) && ((hasB (cG L 8 i) (nI j) == r) && agB L' (gs (cG L) 8 (tellF b (cG L 8) i j)) (cZ L))) = true) : cst l yX5_bar [Cond.code yX5_bar cX5_bar 4 (some .boolean)] rm_X5_bar D cA ad [.int (nI i), .int (nI j), .int (q_b b)] L L' (q_b r) := by
  rintro g z ⟨g, z, rfl, rfl, hI⟩
  rw [Bool.and_eq_true, Bool.and_eq_true (_ == _), Bool.and_eq_true, Bool.and_eq_true] at h
  exact ⟨_, _, q_CIr (c_X5_bar l D cA ad (mixG L g) (mixZ L z) i j b (ltB h.1.1.1) (ltB h.1.1.2) (neB h.1.2)) (congrArg q_b (eq_of_beq h.2.1)), nx (pe_gs pe_mix) ⟨rfl, rfl, rfl⟩ (iv_bar hI (ltB h.1.1.1) (ltB h.1.1.2)) h.2.2⟩
theorem cs_rank (L' : List (List Nat)) (i : Nat) (rk : Int32) (r : Nat) (h : (((Nat.blt i 8 && decide (¬ rk < nI 0 ∧ rk ≤ nI 9)) && decide (cG L 5 i = nI r)) && agB L' (gs (cG L) 5 (upd (cG L 5) i rk)) (cZ L)) = true) : cst l yX5_rank [Cond.code yX5_rank cX5_rank 4 (some .int)] rm_X5_rank D cA ad [.int (nI i), .int rk] L L' (nI r) := by
  rintro g z ⟨g, z, rfl, rfl, hI⟩
  simp only [Bool.and_eq_true] at h
  obtain ⟨⟨⟨h1, h2⟩, h3⟩, h4⟩ := h
  have h2 := of_decide_eq_true h2
  exact ⟨_, _, q_CIr (c_X5_rank l D cA ad (mixG L g) (mixZ L z) i rk (ltB h1) h2) (of_decide_eq_true h3), nx (pe_gs pe_mix) ⟨rfl, rfl, rfl⟩ (iv_rank hI (ltB h1) h2.2) h4⟩
theorem cs_rival (L' : List (List Nat)) (k : Nat) (lb r : Int32) (h : (((Nat.blt k (cZ L 0) && decide (¬ lb < (-1) ∧ lb ≤ nI 15)) && decide (cG L 4 k = r)) && agB L' (gs (cG L) 4 (upd (cG L 4) k lb)) (cZ L)) = true) : cst l yX5_rival [Cond.code yX5_rival cX5_rival 4 (some .int)] rm_X5_rival D cA ad [.int (nI k), .int lb] L L' r := by
  rintro g z ⟨g, z, rfl, rfl, hI⟩
  simp only [Bool.and_eq_true] at h
  obtain ⟨⟨⟨h1, h2⟩, h3⟩, h4⟩ := h
  have h2 := of_decide_eq_true h2
  exact ⟨_, _, q_CIr (c_X5_rival l D cA ad (mixG L g) (mixZ L z) k lb (ltB h1) hI.hz0 h2) (of_decide_eq_true h3), nx (pe_gs pe_mix) ⟨rfl, rfl, rfl⟩ (iv_rival hI (ltB h1) h2.2) h4⟩
theorem cs_mention (L' : List (List Nat)) (nm fm pl po : Int32) (hpo : po = (-1) ∨ q_r po 8) (r : Nat) (h : (((decide (¬ nm < nI 0 ∧ nm ≤ nI 9) && decide (¬ fm < (-1) ∧ fm ≤ nI 9)) && (decide (¬ pl < nI 0 ∧ pl ≤ nI 5) && (Nat.blt (cZ L 0) 16 && Nat.blt (cZ L 2) 40))) && (Nat.beq (cZ L 0) r && agB L' (gs (gs (gs (gs (gs (gs (gs (cG L) 0 (upd (cG L 0) (cZ L 0) nm)) 1 (upd (cG L 1) (cZ L 0) fm)) 2 (upd (cG L 2) (cZ L 0) pl)) 3 (upd (cG L 3) (cZ L 0) po)) 4 (upd (cG L 4) (cZ L 0) (-1))) 22 (upd (cG L 22) (cZ L 0) (nI (cZ L 2)))) 23 (upd (cG L 23) (cZ L 2) (nI (cZ L 2)))) (zs (zs (cZ L) 0 (cZ L 0 + 1)) 2 (cZ L 2 + 1)))) = true) : cst l yX5_mention [Cond.code yX5_mention cX5_mention 6 (some .int)] rm_X5_mention D cA ad [.int nm, .int fm, .int pl, .int po] L L' (nI r) := by
  rintro g z ⟨g, z, rfl, rfl, hI⟩
  simp only [Bool.and_eq_true] at h
  obtain ⟨⟨⟨h1, h2⟩, h3, h4, h5⟩, h6, h7⟩ := h
  exact ⟨_, _, q_CIr (c_X5_mention l D cA ad (mixG L g) (mixZ L z) nm fm pl po hpo (of_decide_eq_true h1) (of_decide_eq_true h2) (of_decide_eq_true h3) (ltB h4) (ltB h5)) (nq h6), nx (pe_gs (pe_gs (pe_gs (pe_gs (pe_gs (pe_gs (pe_gs pe_mix))))))) ⟨rfl, rfl, rfl⟩ (iv_mention hI nm fm pl po (ltB h4) (ltB h5)) h7⟩
theorem cs_join (L' : List (List Nat)) (i j r : Nat) (h : ((ck2 L i j && Nat.beq (raG (cG L) (cZ L 0) i j) 0) && (Nat.beq (min (q_n (cG L 22 i)) (q_n (cG L 22 j))) r && agB L' (gs (gs (cG L) 22 (repl (cG L 22) (nI (max (q_n (cG L 22 i)) (q_n (cG L 22 j)))) (nI (min (q_n (cG L 22 i)) (q_n (cG L 22 j)))) 16)) 23 (repl (cG L 23) (nI (max (q_n (cG L 22 i)) (q_n (cG L 22 j)))) (nI (min (q_n (cG L 22 i)) (q_n (cG L 22 j)))) (cZ L 2))) (cZ L))) = true) : cst l yX5_join [Cond.code yX5_join cX5_join 3 (some .int)] rm_X5_join D cA ad [.int (nI i), .int (nI j)] L L' (nI r) := by
  rintro g z ⟨g, z, rfl, rfl, hI⟩
  obtain ⟨ha, hb⟩ := band h
  obtain ⟨h0, h4⟩ := band ha
  obtain ⟨h5, h6⟩ := band hb
  obtain ⟨h1, h2, h3⟩ := ck2_of h0
  have hra : raG (mixG L g) (mixZ L z 0) i j = 0 := by
    rw [raG_cg (g' := mixG L g) (g := cG L) rfl rfl rfl rfl rfl rfl rfl rfl rfl rfl]
    exact Nat.eq_of_beq_eq_true h4
  have hne : ¬ mixG L g 22 i = mixG L g 22 j := fun q => by rw [raG, if_pos q] at hra; omega
  exact ⟨_, _, q_CIr (c_X5_join l D cA ad (mixG L g) (mixZ L z) i j h1 h2 hI.hz0 h3 hra hI.own40 hI.hz2) (nq h5), nx (pe_gs (pe_gs pe_mix)) ⟨rfl, rfl, rfl⟩ (iv_join hI h1 h2 hne) h6⟩
theorem cs_split (L' : List (List Nat)) (i r : Nat) (h : (((Nat.blt i (cZ L 0) && Nat.ble 2 (cntN (cG L 22) (cG L 22 i) (cZ L 0))) && Nat.blt (cZ L 2) 40) && (Nat.beq (cZ L 2) r && agB L' (gs (gs (cG L) 22 (upd (cG L 22) i (nI (cZ L 2)))) 23 (upd (cG L 23) (cZ L 2) (nI (cZ L 2)))) (zs (cZ L) 2 (cZ L 2 + 1)))) = true) : cst l yX5_split [Cond.code yX5_split cX5_split 2 (some .int)] rm_X5_split D cA ad [.int (nI i)] L L' (nI r) := by
  rintro g z ⟨g, z, rfl, rfl, hI⟩
  simp only [Bool.and_eq_true] at h
  obtain ⟨⟨⟨h1, h2⟩, h3⟩, h4, h5⟩ := h
  exact ⟨_, _, q_CIr (c_X5_split l D cA ad (mixG L g) (mixZ L z) i (ltB h1) hI.hz0 (Nat.le_of_ble_eq_true h2) (ltB h3)) (nq h4), nx (pe_gs (pe_gs pe_mix)) ⟨rfl, rfl, rfl⟩ (iv_split hI (ltB h1) (ltB h3)) h5⟩
theorem cs_person (i r : Nat) (h : (Nat.blt i (cZ L 0) && decide (cG L 22 i = nI r)) = true) : cst l yX5_person [Cond.code yX5_person cX5_person 2 (some .int)] rm_X5_person D cA ad [.int (nI i)] L L (nI r) := by
  rintro g z ⟨g, z, rfl, rfl, hI⟩
  rw [Bool.and_eq_true] at h
  exact ⟨_, _, q_CIr (c_X5_person l D cA ad (mixG L g) (mixZ L z) i (ltB h.1) hI.hz0) (of_decide_eq_true h.2), ⟨g, z, rfl, rfl, hI⟩⟩
theorem cs_entry (i r : Nat) (h : (Nat.blt i (cZ L 2) && decide (cG L 23 i = nI r)) = true) : cst l yX5_entry [Cond.code yX5_entry cX5_entry 2 (some .int)] rm_X5_entry D cA ad [.int (nI i)] L L (nI r) := by
  rintro g z ⟨g, z, rfl, rfl, hI⟩
  rw [Bool.and_eq_true] at h
  exact ⟨_, _, q_CIr (c_X5_entry l D cA ad (mixG L g) (mixZ L z) i (ltB h.1) hI.hz2) (of_decide_eq_true h.2), ⟨g, z, rfl, rfl, hI⟩⟩
theorem cs_size (i r : Nat) (h : (Nat.blt i (cZ L 2) && Nat.beq (cntN (cG L 22) (cG L 23 i) (cZ L 0)) r) = true) : cst l yX5_size [Cond.code yX5_size cX5_size 2 (some .int)] rm_X5_size D cA ad [.int (nI i)] L L (nI r) := by
  rintro g z ⟨g, z, rfl, rfl, hI⟩
  rw [Bool.and_eq_true] at h
  exact ⟨_, _, q_CIr (c_X5_size l D cA ad (mixG L g) (mixZ L z) i (ltB h.1) hI.hz2 hI.hz0) (nq h.2), ⟨g, z, rfl, rfl, hI⟩⟩
theorem cs_differ (r : Nat) (h : Nat.beq (dfO (cG L) (cZ L 0) (cZ L 0)) r = true) : cst l yX5_differ [Cond.code yX5_differ cX5_differ 5 (some .int)] rm_X5_differ D cA ad [] L L (nI r) := by
  rintro g z ⟨g, z, rfl, rfl, hI⟩
  refine ⟨_, _, q_CIr (c_X5_differ l D cA ad (mixG L g) (mixZ L z) hI.hz0) ?_, ⟨g, z, rfl, rfl, hI⟩⟩
  rw [dfO_cg (g' := mixG L g) (g := cG L) rfl rfl]
  exact nq h
theorem cs_careerAt (k p : Nat) (r : Int32) (h : ((Nat.blt k (cZ L 2) && Nat.blt p 2147483648) && decide ((if p < layL (cG L) (cG L 23 k) (cZ L 0) then layR (cG L) (cG L 23 k) (cZ L 0) p else (-1)) = r)) = true) : cst l yX5_careerAt [Cond.code yX5_careerAt cX5_careerAt 4 (some .int)] rm_X5_careerAt D cA ad [.int (nI k), .int (nI p)] L L r := by
  rintro g z ⟨g, z, rfl, rfl, hI⟩
  simp only [Bool.and_eq_true] at h
  obtain ⟨⟨h1, h2⟩, h3⟩ := h
  refine ⟨_, _, q_CIr (c_X5_careerAt l D cA ad (mixG L g) (mixZ L z) k p (ltB h1) hI.hz2 hI.hz0 (ltB h2)) ?_, nx0 ⟨g, z, rfl, rfl, hI⟩ (pe_sc rfl (fun _ _ => rfl)) ⟨rfl, rfl, rfl⟩ hI⟩
  rw [← of_decide_eq_true h3, layL_cg (g' := mixG L g) (g := cG L) rfl rfl]
  show (if p < layL (cG L) (cG L 23 k) (cZ L 0) then layR (mixG L g) (cG L 23 k) (cZ L 0) p else (-1)) = _
  by_cases c : p < layL (cG L) (cG L 23 k) (cZ L 0)
  · rw [if_pos c, if_pos c]
    exact layR_cg (g' := mixG L g) (g := cG L) rfl rfl rfl _ _ c
  · rw [if_neg c, if_neg c]
theorem cs_breaches (k r : Nat) (h : (Nat.blt k (cZ L 2) && Nat.beq (brN (rkC (cG L) (layR (cG L) (cG L 23 k) (cZ L 0))) (layL (cG L) (cG L 23 k) (cZ L 0))) r) = true) : cst l yX5_breaches [Cond.code yX5_breaches cX5_breaches 5 (some .int)] rm_X5_breaches D cA ad [.int (nI k)] L L (nI r) := by
  rintro g z ⟨g, z, rfl, rfl, hI⟩
  rw [Bool.and_eq_true] at h
  refine ⟨_, _, q_CIr (c_X5_breaches l D cA ad (mixG L g) (mixZ L z) k (ltB h.1) hI.hz2 hI.hz0) ?_, nx0 ⟨g, z, rfl, rfl, hI⟩ (pe_sc rfl (fun _ _ => rfl)) ⟨rfl, rfl, rfl⟩ hI⟩
  rw [layL_cg (g' := mixG L g) (g := cG L) rfl rfl]
  refine (congrArg nI (brN_cg _ (fun p hp => ?_))).trans (nq h.2)
  show rAt 8 (cG L 5) (rAt 16 (cG L 3) (layR (mixG L g) (cG L 23 k) (cZ L 0) p)) = rAt 8 (cG L 5) (rAt 16 (cG L 3) (layR (cG L) (cG L 23 k) (cZ L 0) p))
  have e9 : layR (mixG L g) (cG L 23 k) (cZ L 0) p = layR (cG L) (cG L 23 k) (cZ L 0) p := layR_cg (g' := mixG L g) (g := cG L) rfl rfl rfl _ _ hp
  rw [e9]
theorem cs_degree (a b : Nat) (r : Int32) (h : ((Nat.blt a (cZ L 2) && Nat.blt b (cZ L 2)) && decide (sbN (cG L 22) (cG L 11) (upd (fun _ => (-1)) (q_n (cG L 23 a)) (nI 0)) (cZ L 0) (q_n (cG L 23 b)) (cZ L 0) (q_n (cG L 23 b)) = r)) = true) : cst l yX5_degree [Cond.code yX5_degree cX5_degree 3 (some .int)] rm_X5_degree D cA ad [.int (nI a), .int (nI b)] L L r := by
  rintro g z ⟨g, z, rfl, rfl, hI⟩
  simp only [Bool.and_eq_true] at h
  obtain ⟨⟨h1, h2⟩, h3⟩ := h
  exact ⟨_, _, q_CIr (c_X5_degree l D cA ad (mixG L g) (mixZ L z) a b (ltB h1) (ltB h2) hI.hz2 hI.hz0 hI.own40 hI.lead40) (of_decide_eq_true h3), nx0 ⟨g, z, rfl, rfl, hI⟩ (pe_sc rfl (fun _ _ => rfl)) ⟨rfl, rfl, rfl⟩ hI⟩
theorem cs_ahead (L' : List (List Nat)) (i j : Nat) (w : Int32) (r : Nat) (h : ((ck2 L i j && (decide (¬ w < (-50) ∧ w ≤ nI 50) && Nat.blt (cZ L 1) 40)) && ((ahD (cG L) (cZ L) i j w && Nat.beq (ahM (cG L) (cZ L) i j w) r) && agB L' (ahG (cG L) (cZ L) i j w) (zs (cZ L) 1 (cZ L 1 + 1)))) = true) : cst l yX5_ahead [Cond.code yX5_ahead cX5_ahead 5 (some .int)] rm_X5_ahead D cA ad [.int (nI i), .int (nI j), .int w] L L' (nI r) := by
  rintro g z ⟨g, z, rfl, rfl, hI⟩
  obtain ⟨ha, hb⟩ := band h
  obtain ⟨h0, hc⟩ := band ha
  obtain ⟨h4, h5⟩ := band hc
  obtain ⟨hd, h8⟩ := band hb
  obtain ⟨h6, h7⟩ := band hd
  obtain ⟨h1, h2, h3⟩ := ck2_of h0
  obtain ⟨a1, a2⟩ := oy_ahead (l := l) (D := D) (cA := cA) (ad := ad) hI h1 h2 h3 (of_decide_eq_true h4) (ltB h5) h6
  exact ⟨_, _, q_CIr a1 (nq h7), nx (pe_gs (pe_gs (pe_gs (pe_gs (pe_gs (pe_gs (pe_gs pe_mix))))))) ⟨rfl, rfl, rfl⟩ a2 h8⟩
theorem cs_find (L' : List (List Nat)) (i : Nat) (lo hi : Int32) (r : Nat) (h : ((Nat.blt i (cZ L 0) && (decide (¬ lo < nI 0 ∧ lo ≤ nI 999) && decide (¬ hi < lo ∧ hi ≤ nI 999))) && ((fnD (cG L) (cZ L) i lo hi && Nat.beq (fnM (cG L) (cZ L) i lo hi) r) && agB L' (fnG (cG L) (cZ L) i lo hi) (cZ L))) = true) : cst l yX5_find [Cond.code yX5_find cX5_find 5 (some .int)] rm_X5_find D cA ad [.int (nI i), .int lo, .int hi] L L' (nI r) := by
  rintro g z ⟨g, z, rfl, rfl, hI⟩
  obtain ⟨ha, hb⟩ := band h
  obtain ⟨h1, hc⟩ := band ha
  obtain ⟨h2, h3⟩ := band hc
  obtain ⟨hd, h8⟩ := band hb
  obtain ⟨h6, h7⟩ := band hd
  obtain ⟨a1, a2⟩ := oy_find (l := l) (D := D) (cA := cA) (ad := ad) hI (ltB h1) (of_decide_eq_true h2) (of_decide_eq_true h3) h6
  exact ⟨_, _, q_CIr a1 (nq h7), nx (pe_gs (pe_gs (pe_gs (pe_gs (pe_gs (pe_gs pe_mix)))))) ⟨rfl, rfl, rfl⟩ a2 h8⟩
theorem cs_wouldMove (i : Nat) (lo hi r : Int32) (h : ((Nat.blt i (cZ L 0) && (decide (¬ lo < nI 0 ∧ lo ≤ nI 999) && decide (¬ hi < lo ∧ hi ≤ nI 999))) && decide (vd (fnD (cG L) (cZ L) i lo hi) (fnM (cG L) (cZ L) i lo hi) = r)) = true) : cst l yX5_wouldMove [Cond.code yX5_wouldMove cX5_wouldMove 4 (some .int)] rm_X5_wouldMove D cA ad [.int (nI i), .int lo, .int hi] L L r := by
  rintro g z ⟨g, z, rfl, rfl, hI⟩
  rw [Bool.and_eq_true, Bool.and_eq_true, Bool.and_eq_true] at h
  obtain ⟨⟨h1, h2, h3⟩, h4⟩ := h
  obtain ⟨a1, a2⟩ := oy_wouldMove (l := l) (D := D) (cA := cA) (ad := ad) hI (ltB h1) (of_decide_eq_true h2) (of_decide_eq_true h3)
  exact ⟨_, _, q_CIr a1 (of_decide_eq_true h4), nx0 ⟨g, z, rfl, rfl, hI⟩ (pe_sc rfl (pe_sc rfl (fun _ _ => rfl))) ⟨rfl, rfl, rfl⟩ a2⟩
end CB
