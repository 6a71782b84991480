/-! datings pass by pass, by rows of numbers -/
def fl (d : Nat) (l : List Nat) : Nat → Int32 := fun k => nI (l.getD k d)
theorem fl_out {d k : Nat} {l : List Nat} (h : l.length ≤ k) : fl d l k = nI d := by
  unfold fl
  rw [List.getD_eq_getElem?_getD, List.getElem?_eq_none h]
  rfl
section DT
variable {a b w : Nat → Int32} {t : Nat}
theorem psF_out (hE : ∀ k, k < t → q_n (a k) < 16 ∧ q_n (b k) < 16) {F : Nat → Int32} {j : Nat} (hj : 16 ≤ j) : ∀ k, k ≤ t → psF a b w F k j = F j
  | 0, _ => rfl
  | k + 1, hk => by
    have := hE k (by omega)
    have ih := psF_out hE (F := F) hj k (by omega)
    rw [psF]
    split
    · rw [upd_o (by omega)]; exact ih
    · exact ih
theorem psL_out (hE : ∀ k, k < t → q_n (a k) < 16 ∧ q_n (b k) < 16) {F : Nat → Int32} {j : Nat} (hj : 16 ≤ j) : ∀ k, k ≤ t → psL a b w F k j = F j
  | 0, _ => rfl
  | k + 1, hk => by
    have := hE k (by omega)
    have ih := psL_out hE (F := F) hj k (by omega)
    rw [psL]
    split
    · rw [upd_o (by omega)]; exact ih
    · exact ih
def stp (a b w : Nat → Int32) (t : Nat) (lF lL mF mL : List Nat) : Bool :=
  (Nat.ble lF.length 16 && Nat.ble mF.length 16) && ((Nat.ble lL.length 16 && Nat.ble mL.length 16) && (List.range 16).all (fun k => decide (psF a b w (fl 0 lF) t k = fl 0 mF k) && decide (psL a b w (fl 999 lL) t k = fl 999 mL k)))
theorem stp_ok (hE : ∀ k, k < t → q_n (a k) < 16 ∧ q_n (b k) < 16) {lF lL mF mL : List Nat} (h : stp a b w t lF lL mF mL = true) : psF a b w (fl 0 lF) t = fl 0 mF ∧ psL a b w (fl 999 lL) t = fl 999 mL := by
  obtain ⟨h1, h2⟩ := band h
  obtain ⟨h3, h4⟩ := band h1
  obtain ⟨h5, h6⟩ := band h2
  obtain ⟨h7, h8⟩ := band h5
  have h3 := Nat.le_of_ble_eq_true h3
  have h4 := Nat.le_of_ble_eq_true h4
  have h7 := Nat.le_of_ble_eq_true h7
  have h8 := Nat.le_of_ble_eq_true h8
  refine ⟨funext fun k => ?_, funext fun k => ?_⟩
  · rcases Nat.lt_or_ge k 16 with q | q
    · exact of_decide_eq_true (band (List.all_eq_true.mp h6 k (List.mem_range.mpr q))).1
    · rw [psF_out hE q t (Nat.le_refl _), fl_out (by omega), fl_out (by omega)]
  · rcases Nat.lt_or_ge k 16 with q | q
    · exact of_decide_eq_true (band (List.all_eq_true.mp h6 k (List.mem_range.mpr q))).2
    · rw [psL_out hE q t (Nat.le_refl _), fl_out (by omega), fl_out (by omega)]
/-- the passes, one behind the other, and a last one that pushes nothing -/
def chn (a b w : Nat → Int32) (t : Nat) : List Nat → List Nat → List (List Nat × List Nat) → Bool
  | lF, lL, [] => !psC a b w (fl 0 lF) (fl 999 lL) t
  | lF, lL, m :: ms => stp a b w t lF lL m.1 m.2 && chn a b w t m.1 m.2 ms
def lsN : List Nat → List Nat → List (List Nat × List Nat) → List Nat × List Nat
  | lF, lL, [] => (lF, lL)
  | _, _, m :: ms => lsN m.1 m.2 ms
theorem itF_1 {F : Nat → Int32} : ∀ r, itF a b w F t (r + 1) = itF a b w (psF a b w F t) t r
  | 0 => rfl
  | r + 1 => by
    show psF a b w (itF a b w F t (r + 1)) t = psF a b w (itF a b w (psF a b w F t) t r) t
    rw [itF_1 r]
theorem itL_1 {F : Nat → Int32} : ∀ r, itL a b w F t (r + 1) = itL a b w (psL a b w F t) t r
  | 0 => rfl
  | r + 1 => by
    show psL a b w (itL a b w F t (r + 1)) t = psL a b w (itL a b w (psL a b w F t) t r) t
    rw [itL_1 r]
theorem chn_ok (hE : ∀ k, k < t → q_n (a k) < 16 ∧ q_n (b k) < 16) : ∀ (ms : List (List Nat × List Nat)) (lF lL : List Nat), chn a b w t lF lL ms = true → itF a b w (fl 0 lF) t ms.length = fl 0 (lsN lF lL ms).1 ∧ itL a b w (fl 999 lL) t ms.length = fl 999 (lsN lF lL ms).2 ∧ psC a b w (fl 0 (lsN lF lL ms).1) (fl 999 (lsN lF lL ms).2) t = false
  | [], lF, lL, h => ⟨rfl, rfl, by
      have h : (!psC a b w (fl 0 lF) (fl 999 lL) t) = true := h
      show psC a b w (fl 0 lF) (fl 999 lL) t = false
      cases hq : psC a b w (fl 0 lF) (fl 999 lL) t with
      | false => rfl
      | true => rw [hq] at h; cases h⟩
  | m :: ms, lF, lL, h => by
    obtain ⟨h1, h2⟩ := band h
    obtain ⟨e1, e2⟩ := stp_ok hE h1
    obtain ⟨i1, i2, i3⟩ := chn_ok hE ms m.1 m.2 h2
    refine ⟨?_, ?_, i3⟩
    · show itF a b w (fl 0 lF) t (ms.length + 1) = _
      rw [itF_1, e1]; exact i1
    · show itL a b w (fl 999 lL) t (ms.length + 1) = _
      rw [itL_1, e2]; exact i2
theorem itRn_up {F L : Nat → Int32} {r : Nat} (h : itRn a b w F L t r = true) : ∀ m, itRn a b w F L t (r + m) = true
  | 0 => h
  | m + 1 => by
    show (itRn a b w F L t (r + m) || _) = true
    rw [itRn_up h m]; rfl
/-- what the passes leave -/
theorem dat_c (hE : ∀ k, k < t → q_n (a k) < 16 ∧ q_n (b k) < 16) {ms : List (List Nat × List Nat)} {lF lL : List Nat} (hn : Nat.blt ms.length 16 = true) (h : chn a b w t lF lL ms = true) :
    itF a b w (fl 0 lF) t 16 = fl 0 (lsN lF lL ms).1 ∧ itL a b w (fl 999 lL) t 16 = fl 999 (lsN lF lL ms).2 ∧ itR a b w (fl 0 lF) (fl 999 lL) t = true := by
  have hn := ltB hn
  obtain ⟨i1, i2, i3⟩ := chn_ok hE ms lF lL h
  have hC : itC a b w (fl 0 lF) (fl 999 lL) t ms.length = false := by
    show psC a b w (itF a b w (fl 0 lF) t ms.length) (itL a b w (fl 999 lL) t ms.length) t = false
    rw [i1, i2]; exact i3
  obtain ⟨j1, j2⟩ := it_0 hC (16 - ms.length)
  rw [show ms.length + (16 - ms.length) = 16 by omega] at j1 j2
  refine ⟨j1.trans i1, j2.trans i2, ?_⟩
  have k1 : itRn a b w (fl 0 lF) (fl 999 lL) t (ms.length + 1) = true := by
    show (itRn a b w (fl 0 lF) (fl 999 lL) t ms.length || !itC a b w (fl 0 lF) (fl 999 lL) t ms.length) = true
    rw [hC]; simp
  have k2 := itRn_up k1 (15 - ms.length)
  rw [show ms.length + 1 + (15 - ms.length) = 16 by omega] at k2
  exact k2
end DT
section CD
variable {l : Launch} {D : va_G} {cA : ClassId} {ad : Nat → Nat} {L : List (List Nat)}
theorem cs_aheadC (L' : List (List Nat)) (i j : Nat) (w : Int32) (r : Nat) (ms : List (List Nat × List Nat)) (h : (((ck2 L i j && (decide (¬ w < (-50) ∧ w ≤ nI 50) && Nat.blt (cZ L 1) 40)) && (Nat.blt ms.length 16 && chn (upd (cG L 14) (cZ L 1) (nI i)) (upd (cG L 15) (cZ L 1) (nI j)) (upd (cG L 16) (cZ L 1) w) (cZ L 1 + 1) (L.getD 12 []) (L.getD 13 []) ms)) && ((leB (fl 0 (lsN (L.getD 12 []) (L.getD 13 []) ms).1) (fl 999 (lsN (L.getD 12 []) (L.getD 13 []) ms).2) 16 && Nat.beq (mvd (fl 0 (lsN (L.getD 12 []) (L.getD 13 []) ms).1) (fl 999 (lsN (L.getD 12 []) (L.getD 13 []) ms).2) (cG L 17) (cG L 18) 16) r) && agB L' (gs (gs (gs (gs (gs (cG L) 14 (upd (cG L 14) (cZ L 1) (nI i))) 15 (upd (cG L 15) (cZ L 1) (nI j))) 16 (upd (cG L 16) (cZ L 1) w)) 17 (fl 0 (lsN (L.getD 12 []) (L.getD 13 []) ms).1)) 18 (fl 999 (lsN (L.getD 12 []) (L.getD 13 []) ms).2)) (zs (cZ L) 1 (cZ L 1 + 1)))) = true) : cst l yX5_ahead [Cond.code yX5_ahead cX5_ahead 5 (some .int)] rm_X5_ahead D cA ad [.int (nI i), .int (nI j), .int w] L L' (nI r) := by
  rintro g z ⟨g', z', eg, ez, hI⟩
  obtain ⟨ha, hb⟩ := band h
  obtain ⟨hc, hd⟩ := band ha
  obtain ⟨h0, he⟩ := band hc
  obtain ⟨h4, h5⟩ := band he
  obtain ⟨h6, h7⟩ := band hd
  obtain ⟨hf, h8⟩ := band hb
  obtain ⟨h9, h10⟩ := band hf
  obtain ⟨h1, h2, h3⟩ := ck2_of h0
  have z0 : z 0 = cZ L 0 := by rw [ez]; rfl
  have z1 : z 1 = cZ L 1 := by rw [ez]; rfl
  have z2 : z 2 = cZ L 2 := by rw [ez]; rfl
  have e12 : g 12 = fl 0 (L.getD 12 []) := by rw [eg]; rfl
  have e13 : g 13 = fl 999 (L.getD 13 []) := by rw [eg]; rfl
  have e14 : g 14 = cG L 14 := by rw [eg]; rfl
  have e15 : g 15 = cG L 15 := by rw [eg]; rfl
  have e16 : g 16 = cG L 16 := by rw [eg]; rfl
  have e17 : g 17 = cG L 17 := by rw [eg]; rfl
  have e18 : g 18 = cG L 18 := by rw [eg]; rfl
  have h1 : i < z 0 := by rw [z0]; exact h1
  have h2 : j < z 0 := by rw [z0]; exact h2
  have h5 : z 1 < 40 := by rw [z1]; exact ltB h5
  have hz := hI.hz0
  have hE : ∀ k, k < z 1 + 1 → q_n (upd (g 14) (z 1) (nI i) k) < 16 ∧ q_n (upd (g 15) (z 1) (nI j) k) < 16 := fun k hk => by
    obtain ⟨q1, q2⟩ := hE_add hI.hE (show i < 16 by omega) (show j < 16 by omega) k hk
    exact ⟨q1.lt (by omega), q2.lt (by omega)⟩
  rw [← e14, ← e15, ← e16, ← z1] at h7
  obtain ⟨d1, d2, d3⟩ := dat_c hE h6 h7
  rw [← e12] at d1
  rw [← e13] at d2
  rw [← e12, ← e13] at d3
  have hdd : ahD g z i j w = true := by
    show (itR _ _ _ _ _ _ && leB _ _ 16) = true
    rw [d1, d2, d3, h9]; rfl
  have hmm : ahM g z i j w = r := by
    show mvd _ _ _ _ 16 = r
    rw [d1, d2, e17, e18]
    exact Nat.eq_of_beq_eq_true h10
  obtain ⟨a1, a2⟩ := oy_ahead (l := l) (D := D) (cA := cA) (ad := ad) hI h1 h2 h3 (of_decide_eq_true h4) h5 hdd
  refine ⟨_, _, q_CIr a1 (congrArg nI hmm), nx (Z := zs (cZ L) 1 (cZ L 1 + 1)) (pe_sc rfl (pe_sc rfl ?_)) ⟨z0, by show z 1 + 1 = cZ L 1 + 1; rw [z1], z2⟩ a2 h8⟩
  rw [d1, d2, e14, e15, e16, z1]
  exact pe_gs (pe_gs (pe_gs (pe_gs (pe_gs (by rw [eg]; exact pe_mix)))))
theorem cs_findC (L' : List (List Nat)) (i : Nat) (lo hi : Int32) (r : Nat) (lF lL : List Nat) (ms : List (List Nat × List Nat)) (hlo : upd (cG L 12) i (mx (cG L 12 i) lo) = fl 0 lF) (hhi : upd (cG L 13) i (mn (cG L 13 i) hi) = fl 999 lL) (h : (((Nat.blt i (cZ L 0) && (decide (¬ lo < nI 0 ∧ lo ≤ nI 999) && decide (¬ hi < lo ∧ hi ≤ nI 999))) && (Nat.blt ms.length 16 && chn (cG L 14) (cG L 15) (cG L 16) (cZ L 1) lF lL ms)) && ((leB (fl 0 (lsN lF lL ms).1) (fl 999 (lsN lF lL ms).2) 16 && Nat.beq (mvd (fl 0 (lsN lF lL ms).1) (fl 999 (lsN lF lL ms).2) (cG L 17) (cG L 18) 16) r) && agB L' (gs (gs (gs (gs (cG L) 12 (fl 0 lF)) 13 (fl 999 lL)) 17 (fl 0 (lsN lF lL ms).1)) 18 (fl 999 (lsN lF lL ms).2)) (cZ L))) = true) : cst l yX5_find [Cond.code yX5_find cX5_find 5 (some .int)] rm_X5_find D cA ad [.int (nI i), .int lo, .int hi] L L' (nI r) := by
  rintro g z ⟨g', z', eg, ez, hI⟩
  obtain ⟨ha, hb⟩ := band h
  obtain ⟨hc, hd⟩ := band ha
  obtain ⟨h1, he⟩ := band hc
  obtain ⟨h2, h3⟩ := band he
  obtain ⟨h6, h7⟩ := band hd
  obtain ⟨hf, h8⟩ := band hb
  obtain ⟨h9, h10⟩ := band hf
  have z0 : z 0 = cZ L 0 := by rw [ez]; rfl
  have z1 : z 1 = cZ L 1 := by rw [ez]; rfl
  have z2 : z 2 = cZ L 2 := by rw [ez]; rfl
  have e12 : g 12 = cG L 12 := by rw [eg]; rfl
  have e13 : g 13 = cG L 13 := by rw [eg]; rfl
  have e14 : g 14 = cG L 14 := by rw [eg]; rfl
  have e15 : g 15 = cG L 15 := by rw [eg]; rfl
  have e16 : g 16 = cG L 16 := by rw [eg]; rfl
  have e17 : g 17 = cG L 17 := by rw [eg]; rfl
  have e18 : g 18 = cG L 18 := by rw [eg]; rfl
  have h1 : i < z 0 := by rw [z0]; exact ltB h1
  rw [← e12] at hlo
  rw [← e13] at hhi
  have hE : ∀ k, k < z 1 → q_n (g 14 k) < 16 ∧ q_n (g 15 k) < 16 := fun k hk => by
    obtain ⟨q1, q2⟩ := hI.hE k hk
    exact ⟨q1.lt (by omega), q2.lt (by omega)⟩
  rw [← e14, ← e15, ← e16, ← z1] at h7
  obtain ⟨d1, d2, d3⟩ := dat_c hE h6 h7
  rw [← hlo] at d1
  rw [← hhi] at d2
  rw [← hlo, ← hhi] at d3
  have hdd : fnD g z i lo hi = true := by
    show (itR _ _ _ _ _ _ && leB _ _ 16) = true
    rw [d1, d2, d3, h9]; rfl
  have hmm : fnM g z i lo hi = r := by
    show mvd _ _ _ _ 16 = r
    rw [d1, d2, e17, e18]
    exact Nat.eq_of_beq_eq_true h10
  obtain ⟨a1, a2⟩ := oy_find (l := l) (D := D) (cA := cA) (ad := ad) hI h1 (of_decide_eq_true h2) (of_decide_eq_true h3) hdd
  refine ⟨_, _, q_CIr a1 (congrArg nI hmm), nx (pe_sc rfl (pe_sc rfl ?_)) ⟨z0, z1, z2⟩ a2 h8⟩
  rw [d1, d2, hlo, hhi]
  exact pe_gs (pe_gs (pe_gs (pe_gs (by rw [eg]; exact pe_mix))))
end CD
theorem updfl {L : List (List Nat)} {j i : Nat} {x : Int32} {l : List Nat} (h : (((Nat.ble (L.getD j []).length 16 && Nat.blt i 16) && Nat.ble l.length 16) && (List.range 16).all (fun k => decide (upd (cG L j) i x k = fl (dfl j) l k))) = true) : upd (cG L j) i x = fl (dfl j) l := by
  obtain ⟨ha, h4⟩ := band h
  obtain ⟨hb, h3⟩ := band ha
  obtain ⟨h1, h2⟩ := band hb
  have h1 := Nat.le_of_ble_eq_true h1
  have h2 := ltB h2
  have h3 := Nat.le_of_ble_eq_true h3
  funext k
  rcases Nat.lt_or_ge k 16 with q | q
  · exact of_decide_eq_true (List.all_eq_true.mp h4 k (List.mem_range.mpr q))
  · rw [upd_o (by omega), fl_out (by omega)]
    exact fl_out (d := dfl j) (l := L.getD j []) (by omega)
