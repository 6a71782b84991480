/-! the law's loop: calls of the roll in any state -/
theorem nneg {c : Int32} (hc : c.toInt < 0) {n : Nat} (hn : n < 2147483648) : ¬ nI n < c := fun h => by
  have h1 := zz_lt.1 h
  rw [nI_toInt hn] at h1
  omega
theorem nnegE {c : Int32} (hc : c.toInt < 0) {n : Nat} (hn : n < 2147483648) : ¬ nI n = c := fun h => by
  rw [← h, nI_toInt hn] at hc
  omega
theorem qbne {c : Int32} (hc : c.toInt < 0) (b : Bool) : ¬ q_b b = c := fun h => by
  rw [← h] at hc
  cases b <;> exact absurd hc (by decide)
theorem gI1 : (-7000001 : Int32).toInt < 0 := by decide +kernel
theorem gI2 : (-7000002 : Int32).toInt < 0 := by decide +kernel
theorem gI3 : (-7000003 : Int32).toInt < 0 := by decide +kernel
theorem gI0 : (-1 : Int32).toInt < 0 := by decide +kernel
theorem nIz {n : Nat} (hn : n < 2147483648) : nI n = 0 ↔ n = 0 := by
  have := nI_eq (a := n) (b := 0) hn (by omega)
  rw [nI_0] at this
  exact this
theorem nIle0 {n : Nat} (hn : n < 2147483648) : nI n ≤ 0 ↔ n = 0 := by
  have := nI_leI (a := n) (b := 0) hn (by omega)
  rw [nI_0] at this
  exact this.trans Nat.le_zero
theorem SRrf {g : Nat → Nat → Int32} {z : Nat → Nat} (hI : inv g z) : SR g (z 0) (z 1) (z 2) g z := ⟨fun _ _ => rfl, rfl, rfl, rfl, hI⟩
section QG
variable {p : Program} {l : Launch} {e : Env} {R : Room} {s : State} {m : MethodId} {args : Array Value} {below : List Frame} {meth : Method} {c : Code} {H : Heap} {locs : List Loc} {cells slots : Nat} {Q : State → Prop}
variable {cc : ByteArray} {pc nL : Nat} {ls : Array Slot} {rest : List Value} {D : va_G} {A : Nat → Prop} {cA : ClassId} {lv : List (Nat × Value)} {st : List Value} {ad : Nat → Nat} {g : Nat → Nat → Int32} {z : Nat → Nat} {P : (Nat → Nat → Int32) → (Nat → Nat) → Prop}
/-- a call that leaves all as it is -/
theorem q_cE {y : MethodName} {bytes : ByteArray} {maxL n index : Nat} {ret : Option FieldType} {rm : Room} {As : List Value} {r : Int32} (C : lcx p l s m c cc nL D cA A) (hP : va_P D vwCl (rlW cA ad g z) H) (hD : va_D A (rlW cA ad g z)) (hS : va_S A s.heap H locs)
    (hM : q_CI l y [Cond.code y bytes maxL ret] rm D cA (.ref (ad 70) :: As) (rlW cA ad g z) r (rlW cA ad g z)) (km : q_okM y bytes maxL ret n) (kl : q_ok (.methodLink RL index y)) (hyc : y.cls = RX5) (hl : lv_has ls nL lv) (hlen : As.length = n) (hst : st = As.reverse ++ .ref (ad 70) :: rest) (hw : (rest.map fun v => v.category).sum ≤ 8)
    (hR : (rm.cells = 0 ∧ rm.slots = 0) ∧ rm.frames + 1 ≤ R.frames ∧ 8 + (maxL + 11) + rm.locals ≤ R.locals) (hf : cells ≤ R.cells ∧ slots ≤ R.slots) (hdg : decode cc pc = .ok (.invokevirtual index, 3))
    (kk : ∀ (H1 : Heap) (locs1 : List Loc), va_P D vwCl (rlW cA ad g z) H1 → va_D A (rlW cA ad g z) → va_S A s.heap H1 locs1 → W p l e R s m args below meth c H1 locs1 cells slots Q (F0 m (pc + 3) ls (.int r :: rest))) : W p l e R s m args below meth c H locs cells slots Q (F0 m pc ls st) :=
  q_callIW C.hx C.hb C.hml C.hown C.hT C.hK hP hD hS C.hA hM km kl (q0 := 0) (ci := 5) rfl rfl hyc ((rlW_adr _ _ _ _).trans (rlW_adr _ _ _ _).symm) hl hlen hst hw hR hf hdg kk
/-- a call, by what holds behind -/
theorem q_cQ {y : MethodName} {bytes : ByteArray} {maxL n index : Nat} {ret : Option FieldType} {rm : Room} {As : List Value} {r : Int32} (C : lcx p l s m c cc nL D cA A) (hP : va_P D vwCl (rlW cA ad g z) H) (hD : va_D A (rlW cA ad g z)) (hS : va_S A s.heap H locs)
    (hM : ∃ g2 z2, q_CI l y [Cond.code y bytes maxL ret] rm D cA (.ref (ad 70) :: As) (rlW cA ad g z) r (rlW cA ad g2 z2) ∧ P g2 z2) (km : q_okM y bytes maxL ret n) (kl : q_ok (.methodLink RL index y)) (hyc : y.cls = RX5) (hl : lv_has ls nL lv) (hlen : As.length = n) (hst : st = As.reverse ++ .ref (ad 70) :: rest) (hw : (rest.map fun v => v.category).sum ≤ 8)
    (hR : (rm.cells = 0 ∧ rm.slots = 0) ∧ rm.frames + 1 ≤ R.frames ∧ 8 + (maxL + 11) + rm.locals ≤ R.locals) (hf : cells ≤ R.cells ∧ slots ≤ R.slots) (hdg : decode cc pc = .ok (.invokevirtual index, 3))
    (kk : ∀ (g2 : Nat → Nat → Int32) (z2 : Nat → Nat) (H1 : Heap) (locs1 : List Loc), P g2 z2 → va_P D vwCl (rlW cA ad g2 z2) H1 → va_D A (rlW cA ad g2 z2) → va_S A s.heap H1 locs1 → W p l e R s m args below meth c H1 locs1 cells slots Q (F0 m (pc + 3) ls (.int r :: rest))) : W p l e R s m args below meth c H locs cells slots Q (F0 m pc ls st) := by
  obtain ⟨g2, z2, h1, h2⟩ := hM
  exact q_callIW C.hx C.hb C.hml C.hown C.hT C.hK hP hD hS C.hA h1 km kl (q0 := 0) (ci := 5) rfl rfl hyc ((rlW_adr _ _ _ _).trans (rlW_adr _ _ _ _).symm) hl hlen hst hw hR hf hdg (kk g2 z2 · · h2)
/-- a call of act, by what holds behind -/
theorem q_cB {w : Nat} {p0 p1 p2 p3 r : Int32} {c2 s2 : Nat} (C : lcx p l s m c cc nL D cA A) (hP : va_P D vwCl (rlW cA ad g z) H) (hD : va_D A (rlW cA ad g z)) (hS : va_S A s.heap H locs)
    (hM : q_CL l yL_act cwA rm_A D cA [.ref (ad 70), .int (nI w), .int p0, .int p1, .int p2, .int p3] (rlW cA ad g z) r (q_BG cA ad P)) (hl : lv_has ls nL lv) (hst : st = .int p3 :: .int p2 :: .int p1 :: .int p0 :: .int (nI w) :: .ref (ad 70) :: rest) (hw : (rest.map fun v => v.category).sum ≤ 8)
    (hR : 10 ≤ R.frames ∧ 206 ≤ R.locals) (hc2 : cells + 1 ≤ c2 ∧ slots + 6 ≤ s2) (hf : c2 ≤ R.cells ∧ s2 ≤ R.slots) (hdg : decode cc pc = .ok (.invokestatic 102, 3))
    (kk : ∀ (g2 : Nat → Nat → Int32) (z2 : Nat → Nat) (H1 : Heap) (locs1 : List Loc), P g2 z2 → va_P D vwCl (rlW cA ad g2 z2) H1 → va_D A (rlW cA ad g2 z2) → va_S A s.heap H1 locs1 → W p l e R s m args below meth c H1 locs1 c2 s2 Q (F0 m (pc + 3) ls (.int r :: rest))) : W p l e R s m args below meth c H locs cells slots Q (F0 m pc ls st) := by
  refine q_callA C.hx C.hb C.hml C.hown C.hT C.hK hP hD hS C.hA C.hX C.hN C.hZ hM k_L_act kl_L_102 q_BG_adr hl rfl hst hw hR hc2 hf hdg ?_
  rintro w H1 locs1 ⟨g2, z2, rfl, h2⟩ hP1 hD1 hS1
  exact kk g2 z2 H1 locs1 h2 hP1 hD1 hS1
end QG
abbrev rmO (rm : Room) : Prop := rm.cells = 0 ∧ rm.slots = 0 ∧ rm.frames ≤ 8 ∧ rm.locals ≤ 139
/-! queries, by the rows that count -/
section SQ
variable {l : Launch} {D : va_G} {cA : ClassId} {ad : Nat → Nat} {g0 g : Nat → Nat → Int32} {z : Nat → Nat} {a t b : Nat}
theorem sq_year (hs : SR g0 a t b g z) {k : Nat} (hk : k < a) (is : Bool) : ∃ g2 z2, q_CI l yX5_year [Cond.code yX5_year cX5_year 3 (some .int)] rm_X5_year D cA [.ref (ad 70), .int (nI k), .int (q_b is)] (rlW cA ad g z) (bif is then g0 18 k else g0 17 k) (rlW cA ad g2 z2) ∧ SR g0 a t b g2 z2 := by
  have c5 := c_X5_year l D cA ad g z k is (by rw [hs.2.1]; exact hk) hs.2.2.2.2.hz0
  rw [hs.1 17 rfl, hs.1 18 rfl] at c5
  exact ⟨g, z, c5, hs⟩
theorem sq_yearAnew (hs : SR g0 a t b g z) {k : Nat} (hk : k < a) (is : Bool) : ∃ g2 z2, q_CI l yX5_yearAnew [Cond.code yX5_yearAnew cX5_yearAnew 3 (some .int)] rm_X5_yearAnew D cA [.ref (ad 70), .int (nI k), .int (q_b is)] (rlW cA ad g z) (bif is then g0 18 k else g0 17 k) (rlW cA ad g2 z2) ∧ SR g0 a t b g2 z2 := by
  obtain ⟨h1, h2, h3, h4, hI⟩ := hs
  have hk : k < z 0 := by rw [h2]; exact hk
  obtain ⟨w1, w2⟩ := ways_ok hI.1 hI.hz0 hk
  have c5 := c_X5_yearAnew l D cA ad g z k is hk hI.hz0 hI.hE hI.hz1
  rw [w1, w2, h1 17 rfl, h1 18 rfl] at c5
  obtain ⟨X, hX⟩ : ∃ X, X = allW (g 14) (g 15) (g 16) (z 1) := ⟨_, rfl⟩
  rw [← hX] at c5
  exact ⟨_, _, c5, ⟨pe_sc rfl h1, h2, h3, h4, inv_sc rfl hI⟩⟩
theorem sq_careerAt (hs : SR g0 a t b g z) {k pl : Nat} (hk : k < b) (hpl : pl < 2147483648) : ∃ g2 z2, q_CI l yX5_careerAt [Cond.code yX5_careerAt cX5_careerAt 4 (some .int)] rm_X5_careerAt D cA [.ref (ad 70), .int (nI k), .int (nI pl)] (rlW cA ad g z) (if pl < layL g0 (g0 23 k) a then layR g0 (g0 23 k) a pl else (-1)) (rlW cA ad g2 z2) ∧ SR g0 a t b g2 z2 := by
  obtain ⟨h1, h2, h3, h4, hI⟩ := hs
  have c5 := c_X5_careerAt l D cA ad g z k pl (by rw [h4]; exact hk) hI.hz2 hI.hz0 hpl
  rw [h1 23 rfl, h2, layL_cg (g' := g) (g := g0) (h1 3 rfl) (h1 22 rfl)] at c5
  refine ⟨_, _, q_CIr c5 ?_, ⟨pe_sc rfl h1, h2, h3, h4, inv_sc rfl hI⟩⟩
  by_cases q : pl < layL g0 (g0 23 k) a
  · rw [if_pos q, if_pos q]
    exact layR_cg (g' := g) (g := g0) (h1 3 rfl) (h1 17 rfl) (h1 22 rfl) _ _ q
  · rw [if_neg q, if_neg q]
theorem sq_breaches (hs : SR g0 a t b g z) {k : Nat} (hk : k < b) : ∃ g2 z2 n, n ≤ layL g0 (g0 23 k) a - 1 ∧ q_CI l yX5_breaches [Cond.code yX5_breaches cX5_breaches 5 (some .int)] rm_X5_breaches D cA [.ref (ad 70), .int (nI k)] (rlW cA ad g z) (nI n) (rlW cA ad g2 z2) ∧ SR g0 a t b g2 z2 := by
  obtain ⟨h1, h2, h3, h4, hI⟩ := hs
  have c5 := c_X5_breaches l D cA ad g z k (by rw [h4]; exact hk) hI.hz2 hI.hz0
  have hb := br_lt (f := rkC g (layR g (g 23 k) (z 0))) (layL g (g 23 k) (z 0))
  refine ⟨_, _, _, ?_, c5, ⟨pe_sc rfl h1, h2, h3, h4, inv_sc rfl hI⟩⟩
  rw [h1 23 rfl, h2, layL_cg (g' := g) (g := g0) (h1 3 rfl) (h1 22 rfl)] at hb
  rw [h1 23 rfl, h2, layL_cg (g' := g) (g := g0) (h1 3 rfl) (h1 22 rfl)]
  exact hb
theorem sq_person (hs : SR g0 a t b g z) {k : Nat} (hk : k < a) : ∃ g2 z2, q_CI l yX5_person [Cond.code yX5_person cX5_person 2 (some .int)] rm_X5_person D cA [.ref (ad 70), .int (nI k)] (rlW cA ad g z) (nI (q_n (g0 22 k))) (rlW cA ad g2 z2) ∧ SR g0 a t b g2 z2 := by
  have hk : k < z 0 := by rw [hs.2.1]; exact hk
  have c5 := c_X5_person l D cA ad g z k hk hs.2.2.2.2.hz0
  have h2 := hs.2.2.2.2.hz2
  have e := (hs.2.2.2.2.own k hk).eq (by omega)
  rw [hs.1 22 rfl] at c5 e
  exact ⟨g, z, q_CIr c5 e, hs⟩
theorem sq_entry (hs : SR g0 a t b g z) {k : Nat} (hk : k < b) : ∃ g2 z2, q_CI l yX5_entry [Cond.code yX5_entry cX5_entry 2 (some .int)] rm_X5_entry D cA [.ref (ad 70), .int (nI k)] (rlW cA ad g z) (g0 23 k) (rlW cA ad g2 z2) ∧ SR g0 a t b g2 z2 := by
  have c5 := c_X5_entry l D cA ad g z k (by rw [hs.2.2.2.1]; exact hk) hs.2.2.2.2.hz2
  rw [hs.1 23 rfl] at c5
  exact ⟨g, z, c5, hs⟩
theorem sq_size (hs : SR g0 a t b g z) {k : Nat} (hk : k < b) : ∃ g2 z2, q_CI l yX5_size [Cond.code yX5_size cX5_size 2 (some .int)] rm_X5_size D cA [.ref (ad 70), .int (nI k)] (rlW cA ad g z) (nI (cntN (g0 22) (g0 23 k) a)) (rlW cA ad g2 z2) ∧ SR g0 a t b g2 z2 := by
  have c5 := c_X5_size l D cA ad g z k (by rw [hs.2.2.2.1]; exact hk) hs.2.2.2.2.hz2 hs.2.2.2.2.hz0
  rw [hs.1 23 rfl, hs.1 22 rfl, hs.2.1] at c5
  exact ⟨g, z, c5, hs⟩
theorem sq_degree (hs : SR g0 a t b g z) {x y : Nat} (hx : x < b) (hy : y < b) : ∃ g2 z2, q_CI l yX5_degree [Cond.code yX5_degree cX5_degree 3 (some .int)] rm_X5_degree D cA [.ref (ad 70), .int (nI x), .int (nI y)] (rlW cA ad g z) (sbN (g0 22) (g0 11) (upd (fun _ => (-1)) (q_n (g0 23 x)) (nI 0)) a (q_n (g0 23 y)) a (q_n (g0 23 y))) (rlW cA ad g2 z2) ∧ SR g0 a t b g2 z2 := by
  obtain ⟨h1, h2, h3, h4, hI⟩ := hs
  have c5 := c_X5_degree l D cA ad g z x y (by rw [h4]; exact hx) (by rw [h4]; exact hy) hI.hz2 hI.hz0 hI.own40 hI.lead40
  obtain ⟨X, hX⟩ : ∃ X, X = sbN (g 22) (g 11) (upd (fun _ => (-1)) (q_n (g 23 x)) (nI 0)) (z 0) (q_n (g 23 y)) (z 0) := ⟨_, rfl⟩
  rw [← hX] at c5
  have e : X (q_n (g 23 y)) = sbN (g0 22) (g0 11) (upd (fun _ => (-1)) (q_n (g0 23 x)) (nI 0)) a (q_n (g0 23 y)) a (q_n (g0 23 y)) := by rw [hX, h1 22 rfl, h1 11 rfl, h1 23 rfl, h2]
  exact ⟨_, _, q_CIr c5 e, ⟨pe_sc rfl h1, h2, h3, h4, inv_sc rfl hI⟩⟩
theorem sq_differ (hs : SR g0 a t b g z) : ∃ g2 z2, q_CI l yX5_differ [Cond.code yX5_differ cX5_differ 5 (some .int)] rm_X5_differ D cA [.ref (ad 70)] (rlW cA ad g z) (nI (dfO g0 a a)) (rlW cA ad g2 z2) ∧ SR g0 a t b g2 z2 := ⟨g, z, df_SR hs, hs⟩
/-- best by both ways, in any state: the same, and no loss -/
theorem sa_best (hs : SR g0 a t b g z) {n : Nat} (hn : n < 2 ^ a) (hb : pcN n ≤ 6) {v : Int32} (hv : v = bpB (lpO (wopM g0 (lopM (nI n) (fun _ => nI 0) a)) (fun _ => nI 0) (bitC (nI n) a) (bitC (nI n) a)) (fun _ => nI 0) (fun _ => nI 0) (bitC (nI n) a) (2 ^ (bitC (nI n) a) - 1) (2 ^ (bitC (nI n) a) - 1)) (p1 p2 p3 : Int32) : q_CL l yL_act cwA rm_A D cA [.ref (ad 70), .int (nI 21), .int (nI n), .int p1, .int p2, .int p3] (rlW cA ad g z) v (q_BG cA ad (SR g0 a t b)) := by
  obtain ⟨h1, h2, h3, h4, hI⟩ := hs
  subst h2
  have c5 := c_X5_best l D cA ad g z n hn hb hI.hz0
  have bo := (best_ok (g' := g) (g := g0) (p1 := fun _ => nI 0) (p2 := fun _ => nI 0) (gw := fun _ => nI 0) (be := fun _ => nI 0) (p1' := g 24) (p2' := g 25) (gw' := g 26) (be' := g 27) hn hI.hz0 hb (h1 0 rfl) (h1 1 rfl) (h1 2 rfl) (h1 3 rfl) (h1 9 rfl) (h1 10 rfl)).1
  rw [bo, ← hv] at c5
  exact (ao_best l D cA ad g _ z _ (nI n) p1 p2 p3 _ v ⟨rfl, rfl, Nat.le_of_ble_eq_true rfl, Nat.le_of_ble_eq_true rfl⟩ c5).mono rfl (fun x hx => ⟨_, _, hx, ⟨pe_sc rfl (pe_sc rfl (pe_sc rfl (pe_sc rfl h1))), rfl, h3, h4, inv_z3 (inv_sc rfl (inv_sc rfl (inv_sc rfl (inv_sc rfl hI))))⟩⟩)
theorem sa_bestAnew (hs : SR g0 a t b g z) {n : Nat} (hn : n < 2 ^ a) (hb : pcN n ≤ 6) {v : Int32} (hv : v = bpB (lpO (wopM g0 (lopM (nI n) (fun _ => nI 0) a)) (fun _ => nI 0) (bitC (nI n) a) (bitC (nI n) a)) (fun _ => nI 0) (fun _ => nI 0) (bitC (nI n) a) (2 ^ (bitC (nI n) a) - 1) (2 ^ (bitC (nI n) a) - 1)) (p1 p2 p3 : Int32) : q_CL l yL_act cwA rm_A D cA [.ref (ad 70), .int (nI 22), .int (nI n), .int p1, .int p2, .int p3] (rlW cA ad g z) v (q_BG cA ad (SR g0 a t b)) := by
  obtain ⟨h1, h2, h3, h4, hI⟩ := hs
  subst h2
  have c5 := c_X5_bestAnew l D cA ad g z n hn hb hI.hz0
  have bo := (best_ok (g' := g) (g := g0) (p1 := fun _ => nI 0) (p2 := fun _ => nI 0) (gw := fun _ => nI 0) (be := fun _ => nI 0) (p1' := g 24) (p2' := g 25) (gw' := g 26) (be' := g 27) hn hI.hz0 hb (h1 0 rfl) (h1 1 rfl) (h1 2 rfl) (h1 3 rfl) (h1 9 rfl) (h1 10 rfl)).2.1
  rw [bo, ← hv] at c5
  exact (ao_bestAnew l D cA ad g _ z _ (nI n) p1 p2 p3 _ v ⟨rfl, rfl, Nat.le_of_ble_eq_true rfl, Nat.le_of_ble_eq_true rfl⟩ c5).mono rfl (fun x hx => ⟨_, _, hx, ⟨pe_sc rfl (pe_sc rfl (pe_sc rfl h1)), rfl, h3, h4, inv_z3 (inv_sc rfl (inv_sc rfl (inv_sc rfl hI)))⟩⟩)
end SQ
/-! what changes a roll -/
abbrev PI (a b : Nat) (F : (Nat → Nat → Int32) → (Nat → Nat) → Prop) (g : Nat → Nat → Int32) (z : Nat → Nat) : Prop := inv g z ∧ z 0 = a ∧ z 2 = b ∧ F g z
section SM
variable {l : Launch} {D : va_G} {cA : ClassId} {ad : Nat → Nat} {g : Nat → Nat → Int32} {z : Nat → Nat}
abbrev rmOK (rm : Room) : Prop := rm.cells = 0 ∧ rm.slots = 0 ∧ rm.frames ≤ 8 ∧ rm.locals ≤ 139
theorem sm_mention (hI : inv g z) (nm fm pl po : Int32) (hpo : po = (-1) ∨ q_r po 8) (hnm : ¬ nm < nI 0 ∧ nm ≤ nI 9) (hfm : ¬ fm < (-1) ∧ fm ≤ nI 9) (hpl : ¬ pl < nI 0 ∧ pl ≤ nI 5) (h16 : z 0 < 16) (h40 : z 2 < 40) : q_CL l yL_act cwA rm_A D cA [.ref (ad 70), .int (nI 0), .int nm, .int fm, .int pl, .int po] (rlW cA ad g z) (nI (z 0)) (q_BG cA ad (PI (z 0 + 1) (z 2 + 1) (fun g2 _ => q_n (g2 22 (z 0)) = z 2))) :=
  (ao_mention l D cA ad g _ z _ nm fm pl po _ _ ⟨rfl, rfl, Nat.le_of_ble_eq_true rfl, Nat.le_of_ble_eq_true rfl⟩ (c_X5_mention l D cA ad g z nm fm pl po hpo hnm hfm hpl h16 h40)).mono rfl (fun x hx => ⟨_, _, hx, iv_mention hI nm fm pl po h16 h40, rfl, rfl, by
    show q_n (upd (g 22) (z 0) (nI (z 2)) (z 0)) = z 2
    rw [upd_s, q_n_nI (by omega)]⟩)
theorem sm_mentionx (htr : l.stackTraces = false) (hI : inv g z) (nm fm pl po : Int32) (hpo : po = (-1) ∨ q_r po 8) (hnm : ¬ nm < nI 0 ∧ nm ≤ nI 9) (hfm : ¬ fm < (-1) ∧ fm ≤ nI 9) (hpl : ¬ pl < nI 0 ∧ pl ≤ nI 5) (h : ¬ (z 0 < 16 ∧ z 2 < 40)) : q_CL l yL_act cwA rm_A D cA [.ref (ad 70), .int (nI 0), .int nm, .int fm, .int pl, .int po] (rlW cA ad g z) (-7000003) (q_BG cA ad (SR g (z 0) (z 1) (z 2))) := by
  by_cases h16 : z 0 < 16
  · exact (ax_mention_ise l D cA ad g _ z _ nm fm pl po _ ⟨rfl, rfl, Nat.le_of_ble_eq_true rfl, Nat.le_of_ble_eq_true rfl⟩ (c_X5_mentionx6 l htr D cA ad g z nm fm pl po hpo hnm hfm hpl h16 (by omega) hI.hz2)).mono rfl (fun x hx => ⟨g, z, hx, SRrf hI⟩)
  · exact (ax_mention_ise l D cA ad g _ z _ nm fm pl po _ ⟨rfl, rfl, Nat.le_of_ble_eq_true rfl, Nat.le_of_ble_eq_true rfl⟩ (c_X5_mentionx5 l htr D cA ad g z nm fm pl po hpo hnm hfm hpl (by omega) hI.hz0)).mono rfl (fun x hx => ⟨g, z, hx, SRrf hI⟩)
theorem sm_ahead (hI : inv g z) {i j : Nat} {w : Int32} (hi : i < z 0) (hj : j < z 0) (hij : ¬ i = j) (hw : ¬ w < (-50) ∧ w ≤ nI 50) (h40 : z 1 < 40) (hd : ahD g z i j w = true) (p3 : Int32) : q_CL l yL_act cwA rm_A D cA [.ref (ad 70), .int (nI 3), .int (nI i), .int (nI j), .int w, .int p3] (rlW cA ad g z) (nI (ahM g z i j w)) (q_BG cA ad (PI (z 0) (z 2) (fun g2 _ => (g 17 j).toInt ≤ (g2 17 j).toInt ∧ (g2 17 i).toInt + w.toInt ≤ (g2 17 j).toInt))) := by
  obtain ⟨a1, a2⟩ := oy_ahead (l := l) (D := D) (cA := cA) (ad := ad) hI hi hj hij hw h40 hd
  have hz := hI.hz0
  refine (ao_ahead l D cA ad g _ z _ (nI i) (nI j) w p3 _ _ ⟨rfl, rfl, Nat.le_of_ble_eq_true rfl, Nat.le_of_ble_eq_true rfl⟩ a1).mono rfl (fun x hx => ⟨_, _, hx, a2, rfl, rfl, ?_, fa_new a2 (by omega) (by omega)⟩)
  exact fy_mono hI a2 rfl (Nat.le_succ _) (fun k hk => ⟨upd_o (by omega), upd_o (by omega), upd_o (by omega)⟩) rfl hj
theorem sm_aheadx (htr : l.stackTraces = false) (hI : inv g z) {i j : Nat} {w : Int32} (hi : i < z 0) (hj : j < z 0) (hij : ¬ i = j) (hw : ¬ w < (-50) ∧ w ≤ nI 50) (h : ¬ (z 1 < 40 ∧ ahD g z i j w = true)) (p3 : Int32) : q_CL l yL_act cwA rm_A D cA [.ref (ad 70), .int (nI 3), .int (nI i), .int (nI j), .int w, .int p3] (rlW cA ad g z) (-7000003) (q_BG cA ad (PI (z 0) (z 2) (fun _ _ => True))) := by
  by_cases h40 : z 1 < 40
  · have hd : ahD g z i j w = false := by
      cases q : ahD g z i j w with
      | false => rfl
      | true => exact absurd ⟨h40, q⟩ h
    obtain ⟨a1, a2⟩ := oy_aheadx (D := D) (cA := cA) (ad := ad) htr hI hi hj hij hw h40 hd
    exact (ax_ahead_ise l D cA ad g _ z _ (nI i) (nI j) w p3 _ ⟨rfl, rfl, Nat.le_of_ble_eq_true rfl, Nat.le_of_ble_eq_true rfl⟩ a1).mono rfl (fun x hx => ⟨_, _, hx, a2, rfl, rfl, trivial⟩)
  · have := hI.hz1
    exact (ax_ahead_ise l D cA ad g _ z _ (nI i) (nI j) w p3 _ ⟨rfl, rfl, Nat.le_of_ble_eq_true rfl, Nat.le_of_ble_eq_true rfl⟩ (c_X5_aheadx5 l htr D cA ad g z i j w hi hj hI.hz0 hij hw (by omega))).mono rfl (fun x hx => ⟨_, _, hx, hI, rfl, rfl, trivial⟩)
theorem sm_find (hI : inv g z) {i : Nat} {lo hi : Int32} (hk : i < z 0) (hlo : ¬ lo < nI 0 ∧ lo ≤ nI 999) (hhi : ¬ hi < lo ∧ hi ≤ nI 999) (hd : fnD g z i lo hi = true) (p3 : Int32) : q_CL l yL_act cwA rm_A D cA [.ref (ad 70), .int (nI 4), .int (nI i), .int lo, .int hi, .int p3] (rlW cA ad g z) (nI (fnM g z i lo hi)) (q_BG cA ad (PI (z 0) (z 2) (fun g2 _ => lo.toInt ≤ (g2 17 i).toInt ∧ (g2 18 i).toInt ≤ hi.toInt))) := by
  obtain ⟨a1, a2⟩ := oy_find (l := l) (D := D) (cA := cA) (ad := ad) hI hk hlo hhi hd
  exact (ao_find l D cA ad g _ z _ (nI i) lo hi p3 _ _ ⟨rfl, rfl, Nat.le_of_ble_eq_true rfl, Nat.le_of_ble_eq_true rfl⟩ a1).mono rfl (fun x hx => ⟨_, _, hx, a2, rfl, rfl, fn_new a2 hk⟩)
theorem sm_findx (htr : l.stackTraces = false) (hI : inv g z) {i : Nat} {lo hi : Int32} (hk : i < z 0) (hlo : ¬ lo < nI 0 ∧ lo ≤ nI 999) (hhi : ¬ hi < lo ∧ hi ≤ nI 999) (hd : fnD g z i lo hi = false) (p3 : Int32) : q_CL l yL_act cwA rm_A D cA [.ref (ad 70), .int (nI 4), .int (nI i), .int lo, .int hi, .int p3] (rlW cA ad g z) (-7000003) (q_BG cA ad (PI (z 0) (z 2) (fun _ _ => True))) := by
  obtain ⟨a1, a2⟩ := oy_findx (D := D) (cA := cA) (ad := ad) htr hI hk hlo hhi hd
  exact (ax_find_ise l D cA ad g _ z _ (nI i) lo hi p3 _ ⟨rfl, rfl, Nat.le_of_ble_eq_true rfl, Nat.le_of_ble_eq_true rfl⟩ a1).mono rfl (fun x hx => ⟨_, _, hx, a2, rfl, rfl, trivial⟩)
theorem sm_wouldMove (hI : inv g z) {i : Nat} {lo hi : Int32} (hk : i < z 0) (hlo : ¬ lo < nI 0 ∧ lo ≤ nI 999) (hhi : ¬ hi < lo ∧ hi ≤ nI 999) : ∃ g2 z2, q_CI l yX5_wouldMove [Cond.code yX5_wouldMove cX5_wouldMove 4 (some .int)] rm_X5_wouldMove D cA [.ref (ad 70), .int (nI i), .int lo, .int hi] (rlW cA ad g z) (vd (fnD g z i lo hi) (fnM g z i lo hi)) (rlW cA ad g2 z2) ∧ PI (z 0) (z 2) (fun g2 z2 => fnD g2 z2 i lo hi = fnD g z i lo hi ∧ fnM g2 z2 i lo hi = fnM g z i lo hi) g2 z2 := by
  obtain ⟨a1, a2⟩ := oy_wouldMove (l := l) (D := D) (cA := cA) (ad := ad) hI hk hlo hhi
  exact ⟨_, _, a1, a2, rfl, rfl, rfl, rfl⟩
theorem sm_seal (hI : inv g z) {i j : Nat} (hi : i < z 0) (hj : j < z 0) (hij : ¬ i = j) (p2 p3 : Int32) : q_CL l yL_act cwA rm_A D cA [.ref (ad 70), .int (nI 8), .int (nI i), .int (nI j), .int p2, .int p3] (rlW cA ad g z) (q_b (hasB (g 9 i) (nI j))) (q_BG cA ad (PI (z 0) (z 2) (fun g2 _ => hasB (g2 9 j) (nI i) = true))) := by
  have hz := hI.hz0
  exact (ao_seal l D cA ad g _ z _ (nI i) (nI j) p2 p3 _ _ ⟨rfl, rfl, Nat.le_of_ble_eq_true rfl, Nat.le_of_ble_eq_true rfl⟩ (c_X5_seal l D cA ad g z i j hi hj hI.hz0 hij)).mono rfl (fun x hx => ⟨_, _, hx, iv_seal hI hi hj, rfl, rfl, (tell_hit (by omega) (by omega) hij).2⟩)
theorem sm_block (hI : inv g z) {i j : Nat} (hi : i < z 0) (hj : j < z 0) (hij : ¬ i = j) (p3 : Int32) : q_CL l yL_act cwA rm_A D cA [.ref (ad 70), .int (nI 9), .int (nI i), .int (nI j), .int (nI 1), .int p3] (rlW cA ad g z) (q_b (hasB (g 10 i) (nI j))) (q_BG cA ad (PI (z 0) (z 2) (fun g2 _ => hasB (g2 10 i) (nI j) = true ∧ hasB (g2 10 j) (nI i) = true))) := by
  have hz := hI.hz0
  have c5 := c_X5_block l D cA ad g z i j true hi hj hI.hz0 hij
  refine (ao_block l D cA ad g (gs g 10 (tellF true (g 10) i j)) z z (nI i) (nI j) (nI 1) p3 rm_X5_block (hasB (g 10 i) (nI j)) ⟨rfl, rfl, Nat.le_of_ble_eq_true rfl, Nat.le_of_ble_eq_true rfl⟩ ?_).mono rfl (fun x hx => ⟨_, _, hx, iv_block hI hi hj, rfl, rfl, tell_hit (by omega) (by omega) hij⟩)
  rw [decide_eq_true (show nI 1 = nI 1 from rfl)]
  exact c5
theorem sm_kin (hI : inv g z) {i j : Nat} (hi : i < z 0) (hj : j < z 0) (hij : ¬ i = j) (p2 p3 : Int32) : q_CL l yL_act cwA rm_A D cA [.ref (ad 70), .int (nI 19), .int (nI i), .int (nI j), .int p2, .int p3] (rlW cA ad g z) (q_b (hasB (g 11 i) (nI j))) (q_BG cA ad (PI (z 0) (z 2) (fun g2 _ => hasB (g2 11 i) (nI j) = true ∧ hasB (g2 11 j) (nI i) = true))) := by
  have hz := hI.hz0
  exact (ao_kin l D cA ad g _ z _ (nI i) (nI j) p2 p3 _ _ ⟨rfl, rfl, Nat.le_of_ble_eq_true rfl, Nat.le_of_ble_eq_true rfl⟩ (c_X5_kin l D cA ad g z i j hi hj hI.hz0 hij)).mono rfl (fun x hx => ⟨_, _, hx, iv_kin hI hi hj, rfl, rfl, tell_hit (by omega) (by omega) hij⟩)
theorem sm_bar (hI : inv g z) {i j : Nat} (hi : i < 8) (hj : j < 8) (hij : ¬ i = j) (p2 p3 : Int32) : q_CL l yL_act cwA rm_A D cA [.ref (ad 70), .int (nI 2), .int (nI i), .int (nI j), .int p2, .int p3] (rlW cA ad g z) (q_b (hasB (g 8 i) (nI j))) (q_BG cA ad (PI (z 0) (z 2) (fun _ _ => True))) :=
  (ao_bar l D cA ad g _ z _ (nI i) (nI j) p2 p3 _ _ ⟨rfl, rfl, Nat.le_of_ble_eq_true rfl, Nat.le_of_ble_eq_true rfl⟩ (c_X5_bar l D cA ad g z i j (decide (p2 = nI 1)) hi hj hij)).mono rfl (fun x hx => ⟨_, _, hx, iv_bar hI hi hj, rfl, rfl, trivial⟩)
theorem sm_rank (hI : inv g z) {i : Nat} {rk : Int32} (hi : i < 8) (hrk : ¬ rk < nI 0 ∧ rk ≤ nI 9) : ∃ g2 z2, q_CI l yX5_rank [Cond.code yX5_rank cX5_rank 4 (some .int)] rm_X5_rank D cA [.ref (ad 70), .int (nI i), .int rk] (rlW cA ad g z) (g 5 i) (rlW cA ad g2 z2) ∧ PI (z 0) (z 2) (fun _ _ => True) g2 z2 :=
  ⟨_, _, c_X5_rank l D cA ad g z i rk hi hrk, iv_rank hI hi hrk.2, rfl, rfl, trivial⟩
theorem sm_rival (hI : inv g z) {k : Nat} {lb : Int32} (hk : k < z 0) (hlb : ¬ lb < (-1) ∧ lb ≤ nI 15) : ∃ g2 z2, q_CI l yX5_rival [Cond.code yX5_rival cX5_rival 4 (some .int)] rm_X5_rival D cA [.ref (ad 70), .int (nI k), .int lb] (rlW cA ad g z) (g 4 k) (rlW cA ad g2 z2) ∧ PI (z 0) (z 2) (fun _ _ => True) g2 z2 :=
  ⟨_, _, c_X5_rival l D cA ad g z k lb hk hI.hz0 hlb, iv_rival hI hk hlb.2, rfl, rfl, trivial⟩
theorem sm_join (hI : inv g z) {i j : Nat} (hi : i < z 0) (hj : j < z 0) (hij : ¬ i = j) (hra : raG g (z 0) i j = 0) (p2 p3 : Int32) {lw : Nat} (hlw : lw = min (q_n (g 22 i)) (q_n (g 22 j))) : q_CL l yL_act cwA rm_A D cA [.ref (ad 70), .int (nI 12), .int (nI i), .int (nI j), .int p2, .int p3] (rlW cA ad g z) (nI lw) (q_BG cA ad (PI (z 0) (z 2) (fun g2 z2 => q_n (g2 22 i) = lw ∧ q_n (g2 22 j) = lw ∧ raG g2 (z2 0) i j = 1 ∧ wtN g2 i j = wtN g i j))) := by
  have hne : ¬ g 22 i = g 22 j := fun q => by rw [raG, if_pos q] at hra; omega
  have hz := hI.hz0
  have h2 := hI.hz2
  have q1 := (hI.own i hi).lt (by omega)
  have q2 := (hI.own j hj).lt (by omega)
  have e1 := (hI.own i hi).eq (by omega)
  have e2 := (hI.own j hj).eq (by omega)
  refine (ao_join l D cA ad g _ z _ (nI i) (nI j) p2 p3 _ _ ⟨rfl, rfl, Nat.le_of_ble_eq_true rfl, Nat.le_of_ble_eq_true rfl⟩ (c_X5_join l D cA ad g z i j hi hj hI.hz0 hij hra hI.own40 hI.hz2)).mono (by rw [hlw]) (fun x hx => ⟨_, _, hx, iv_join hI hi hj hne, rfl, rfl, ?_⟩)
  obtain ⟨ma, hma⟩ : ∃ y, y = max (q_n (g 22 i)) (q_n (g 22 j)) := ⟨_, rfl⟩
  rw [← hlw, ← hma]
  have lwlt : lw < z 2 := by rw [hlw, Nat.min_def]; split <;> omega
  have both : ∀ k, k < 16 → (k = i ∨ k = j) → repl (g 22) (nI ma) (nI lw) 16 k = nI lw := fun k hk h => by
    show (if k < 16 ∧ g 22 k = nI ma then nI lw else g 22 k) = nI lw
    by_cases c : g 22 k = nI ma
    · rw [if_pos ⟨hk, c⟩]
    · rw [if_neg (fun q => c q.2)]
      rcases h with rfl | rfl
      · rw [hlw, Nat.min_def]
        rw [e1, hma, Nat.max_def] at c
        split
        · exact e1
        · rename_i h9
          rw [if_neg h9] at c
          exact absurd rfl c
      · rw [hlw, Nat.min_def]
        rw [e2, hma, Nat.max_def] at c
        split
        · rename_i h9
          rw [if_pos h9] at c
          exact absurd rfl c
        · exact e2
  have b1 := both i (by omega) (Or.inl rfl)
  have b2 := both j (by omega) (Or.inr rfl)
  refine ⟨?_, ?_, ?_, rfl⟩
  · show q_n (repl (g 22) (nI ma) (nI lw) 16 i) = lw
    rw [b1, q_n_nI (by omega)]
  · show q_n (repl (g 22) (nI ma) (nI lw) 16 j) = lw
    rw [b2, q_n_nI (by omega)]
  · unfold raG
    exact if_pos (show repl (g 22) (nI ma) (nI lw) 16 i = repl (g 22) (nI ma) (nI lw) 16 j by rw [b1, b2])
theorem sm_joinx (htr : l.stackTraces = false) (hI : inv g z) {i j : Nat} (hi : i < z 0) (hj : j < z 0) (hij : ¬ i = j) (hra : ¬ raG g (z 0) i j = 0) (p2 p3 : Int32) : q_CL l yL_act cwA rm_A D cA [.ref (ad 70), .int (nI 12), .int (nI i), .int (nI j), .int p2, .int p3] (rlW cA ad g z) (-7000003) (q_BG cA ad (SR g (z 0) (z 1) (z 2))) :=
  (ax_join_ise l D cA ad g _ z _ (nI i) (nI j) p2 p3 _ ⟨rfl, rfl, Nat.le_of_ble_eq_true rfl, Nat.le_of_ble_eq_true rfl⟩ (c_X5_joinx4 l htr D cA ad g z i j hi hj hI.hz0 hij hra)).mono rfl (fun x hx => ⟨g, z, hx, SRrf hI⟩)
theorem sm_split (hI : inv g z) {i : Nat} (hi : i < z 0) (hc : 2 ≤ cntN (g 22) (g 22 i) (z 0)) (h40 : z 2 < 40) (p1 p2 p3 : Int32) : q_CL l yL_act cwA rm_A D cA [.ref (ad 70), .int (nI 13), .int (nI i), .int p1, .int p2, .int p3] (rlW cA ad g z) (nI (z 2)) (q_BG cA ad (PI (z 0) (z 2 + 1) (fun g2 _ => q_n (g2 22 i) = z 2 ∧ cntN (g2 22) (g2 23 (z 2)) (z 0) = 1))) := by
  have hz := hI.hz0
  refine (ao_split l D cA ad g _ z _ (nI i) p1 p2 p3 _ _ ⟨rfl, rfl, Nat.le_of_ble_eq_true rfl, Nat.le_of_ble_eq_true rfl⟩ (c_X5_split l D cA ad g z i hi hI.hz0 hc h40)).mono rfl (fun x hx => ⟨_, _, hx, iv_split hI hi h40, rfl, rfl, ?_, ?_⟩)
  · show q_n (upd (g 22) i (nI (z 2)) i) = z 2
    rw [upd_s, q_n_nI (by omega)]
  · show cntN (upd (g 22) i (nI (z 2))) (upd (g 23) (z 2) (nI (z 2)) (z 2)) (z 0) = 1
    rw [upd_s]
    refine cnt_new (z 0) hi (fun k hk q => ?_)
    obtain ⟨n, hn, e⟩ := hI.own k hk
    rw [e] at q
    have := (nI_eq (a := n) (b := z 2) (by omega) (by omega)).1 q
    omega
theorem sm_splitx (htr : l.stackTraces = false) (hI : inv g z) {i : Nat} (hi : i < z 0) (h : ¬ (2 ≤ cntN (g 22) (g 22 i) (z 0) ∧ z 2 < 40)) (p1 p2 p3 : Int32) : q_CL l yL_act cwA rm_A D cA [.ref (ad 70), .int (nI 13), .int (nI i), .int p1, .int p2, .int p3] (rlW cA ad g z) (-7000003) (q_BG cA ad (SR g (z 0) (z 1) (z 2))) := by
  by_cases hc : 2 ≤ cntN (g 22) (g 22 i) (z 0)
  · exact (ax_split_ise l D cA ad g _ z _ (nI i) p1 p2 p3 _ ⟨rfl, rfl, Nat.le_of_ble_eq_true rfl, Nat.le_of_ble_eq_true rfl⟩ (c_X5_splitx3 l htr D cA ad g z i hi hI.hz0 hc (by omega) hI.hz2)).mono rfl (fun x hx => ⟨g, z, hx, SRrf hI⟩)
  · exact (ax_split_ise l D cA ad g _ z _ (nI i) p1 p2 p3 _ ⟨rfl, rfl, Nat.le_of_ble_eq_true rfl, Nat.le_of_ble_eq_true rfl⟩ (c_X5_splitx2 l htr D cA ad g z i hi hI.hz0 (by omega))).mono rfl (fun x hx => ⟨g, z, hx, SRrf hI⟩)
end SM
