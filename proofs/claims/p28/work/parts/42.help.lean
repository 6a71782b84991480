/-! a frame of the law: what stays -/
def lcx (p : Program) (l : Launch) (s : State) (m : MethodId) (c : Code) (cc : ByteArray) (nL : Nat) (D : va_G) (cA : ClassId) (A : Nat → Prop) : Prop :=
  p.tables.exec = Jvm.exec ∧ c.code = cc ∧ c.maxLocals = nL ∧ s.vm.findClass RL = some m.cls ∧ q_Tb s ∧ va_K D vwCl [(cA, .int)] s ∧ (∀ q : Nat, s.heap.size ≤ q → A q) ∧ q_Xt s ∧ q_Nc s ∧ q_Zz A s s.heap ∧ l.stackTraces = false
section LX
variable {p : Program} {l : Launch} {s : State} {m : MethodId} {c : Code} {cc : ByteArray} {nL : Nat} {D : va_G} {cA : ClassId} {A : Nat → Prop}
theorem lcx.hx (C : lcx p l s m c cc nL D cA A) : p.tables.exec = Jvm.exec := C.1
theorem lcx.hb (C : lcx p l s m c cc nL D cA A) : c.code = cc := C.2.1
theorem lcx.hml (C : lcx p l s m c cc nL D cA A) : c.maxLocals = nL := C.2.2.1
theorem lcx.hown (C : lcx p l s m c cc nL D cA A) : s.vm.findClass RL = some m.cls := C.2.2.2.1
theorem lcx.hT (C : lcx p l s m c cc nL D cA A) : q_Tb s := C.2.2.2.2.1
theorem lcx.hK (C : lcx p l s m c cc nL D cA A) : va_K D vwCl [(cA, .int)] s := C.2.2.2.2.2.1
theorem lcx.hA (C : lcx p l s m c cc nL D cA A) : ∀ q : Nat, s.heap.size ≤ q → A q := C.2.2.2.2.2.2.1
theorem lcx.hX (C : lcx p l s m c cc nL D cA A) : q_Xt s := C.2.2.2.2.2.2.2.1
theorem lcx.hN (C : lcx p l s m c cc nL D cA A) : q_Nc s := C.2.2.2.2.2.2.2.2.1
theorem lcx.hZ (C : lcx p l s m c cc nL D cA A) : q_Zz A s s.heap := C.2.2.2.2.2.2.2.2.2.1
theorem lcx.htr (C : lcx p l s m c cc nL D cA A) : l.stackTraces = false := C.2.2.2.2.2.2.2.2.2.2
end LX
theorem q_CL.mono {l : Launch} {y : MethodName} {cw : List Cond} {rm : Room} {D : va_G} {cA : ClassId} {av : List Value} {w : va_W} {r r' : Int32} {B B' : va_W → Prop} (h : q_CL l y cw rm D cA av w r B) (e : r = r') (hB : ∀ x, B x → B' x) : q_CL l y cw rm D cA av w r' B' := by
  subst e
  intro sz
  intro p e h1 h2 h3 s m args below h4 h5 h6 h7
  obtain ⟨n, o, a1, a2, a3, ⟨⟨r', u, b1, ⟨b2, b3⟩, b4⟩, b5⟩, b6⟩ := h sz p e h1 h2 h3 s m args below h4 h5 h6 h7
  exact ⟨n, o, a1, a2, a3, ⟨⟨r', u, b1, ⟨b2, hB _ b3⟩, b4⟩, b5⟩, b6⟩
def csl (l : Launch) (y : MethodName) (cw : List Cond) (rm : Room) (D : va_G) (cA : ClassId) (ad : Nat → Nat) (As : List Value) (L L' : List (List Nat)) (r : Int32) : Prop :=
  ∀ g z, isL L g z → q_CL l y cw rm D cA (.ref (ad 70) :: As) (rlW cA ad g z) r (q_BG cA ad (isL L'))
abbrev cwA : List Cond := [Cond.codeWith yL_act cL_act 7 (some .int) hh_act]
section QC
variable {p : Program} {l : Launch} {e : Env} {R : Room} {s : State} {m : MethodId} {args : Array Value} {below : List Frame} {meth : Method} {c : Code} {H : Heap} {locs : List Loc} {cells slots : Nat} {Q : State → Prop}
variable {cc : ByteArray} {pc nL : Nat} {ls : Array Slot} {rest : List Value} {D : va_G} {A : Nat → Prop} {cA : ClassId} {lv : List (Nat × Value)} {st : List Value} {ad : Nat → Nat} {g : Nat → Nat → Int32} {z : Nat → Nat} {L L' : List (List Nat)}
/-- a call of the roll, by states -/
theorem q_cO {y : MethodName} {bytes : ByteArray} {maxL n index : Nat} {ret : Option FieldType} {rm : Room} {As : List Value} {r : Int32} (C : lcx p l s m c cc nL D cA A) (hs : isL L g z) (hP : va_P D vwCl (rlW cA ad g z) H) (hD : va_D A (rlW cA ad g z)) (hS : va_S A s.heap H locs)
    (hM : cst l y [Cond.code y bytes maxL ret] rm D cA ad As L L' r) (km : q_okM y bytes maxL ret n) (kl : q_ok (.methodLink RL index y)) (hyc : y.cls = RX5) (hl : lv_has ls nL lv) (hlen : As.length = n) (hst : st = As.reverse ++ .ref (ad 70) :: rest) (hw : (rest.map fun v => v.category).sum ≤ 8)
    (hR : (rm.cells = 0 ∧ rm.slots = 0) ∧ rm.frames + 1 ≤ R.frames ∧ 8 + (maxL + 11) + rm.locals ≤ R.locals) (hf : cells ≤ R.cells ∧ slots ≤ R.slots) (hdg : decode cc pc = .ok (.invokevirtual index, 3))
    (kk : ∀ (g : Nat → Nat → Int32) (z : Nat → Nat) (H1 : Heap) (locs1 : List Loc), isL L' g z → va_P D vwCl (rlW cA ad g z) H1 → va_D A (rlW cA ad g z) → va_S A s.heap H1 locs1 → W p l e R s m args below meth c H1 locs1 cells slots Q (F0 m (pc + 3) ls (.int r :: rest))) : W p l e R s m args below meth c H locs cells slots Q (F0 m pc ls st) := by
  obtain ⟨g2, z2, h1, h2⟩ := hM g z hs
  exact q_callIW C.hx C.hb C.hml C.hown C.hT C.hK hP hD hS C.hA h1 km kl (q0 := 0) (ci := 5) rfl rfl hyc ((rlW_adr _ _ _ _).trans (rlW_adr _ _ _ _).symm) hl hlen hst hw hR hf hdg (fun H1 locs1 hP1 hD1 hS1 => kk g2 z2 H1 locs1 h2 hP1 hD1 hS1)
theorem q_cA {As : List Value} {r : Int32} {c2 s2 : Nat} (C : lcx p l s m c cc nL D cA A) (hs : isL L g z) (hP : va_P D vwCl (rlW cA ad g z) H) (hD : va_D A (rlW cA ad g z)) (hS : va_S A s.heap H locs)
    (hM : csl l yL_act cwA rm_A D cA ad As L L' r) (kl : q_ok (.methodLink RL 102 yL_act)) (hl : lv_has ls nL lv) (hlen : As.length = 5) (hst : st = (.ref (ad 70) :: As).reverse ++ rest) (hw : (rest.map fun v => v.category).sum ≤ 8)
    (hR : 10 ≤ R.frames ∧ 206 ≤ R.locals) (hc2 : cells + 1 ≤ c2 ∧ slots + 6 ≤ s2) (hf : c2 ≤ R.cells ∧ s2 ≤ R.slots) (hdg : decode cc pc = .ok (.invokestatic 102, 3))
    (kk : ∀ (g : Nat → Nat → Int32) (z : Nat → Nat) (H1 : Heap) (locs1 : List Loc), isL L' g z → va_P D vwCl (rlW cA ad g z) H1 → va_D A (rlW cA ad g z) → va_S A s.heap H1 locs1 → W p l e R s m args below meth c H1 locs1 c2 s2 Q (F0 m (pc + 3) ls (.int r :: rest))) : W p l e R s m args below meth c H locs cells slots Q (F0 m pc ls st) := by
  refine q_callA C.hx C.hb C.hml C.hown C.hT C.hK hP hD hS C.hA C.hX C.hN C.hZ (hM g z hs) k_L_act kl q_BG_adr hl (by show As.length + 1 = 6; omega) hst hw hR hc2 hf hdg ?_
  rintro w H1 locs1 ⟨g2, z2, rfl, h2⟩ hP1 hD1 hS1
  exact kk g2 z2 H1 locs1 h2 hP1 hD1 hS1
theorem q_cP {y : MethodName} {bytes : ByteArray} {maxL n index c2 s2 : Nat} {ret : Option FieldType} {rm : Room} {As : List Value} {r : Int32} (C : lcx p l s m c cc nL D cA A) (hs : isL L g z) (hP : va_P D vwCl (rlW cA ad g z) H) (hD : va_D A (rlW cA ad g z)) (hS : va_S A s.heap H locs)
    (hM : csl l y [Cond.code y bytes maxL ret] rm D cA ad As L L' r) (km : q_okS y bytes maxL ret n) (kl : q_ok (.methodLink RL index y)) (hl : lv_has ls nL lv) (hlen : As.length + 1 = n) (hst : st = (.ref (ad 70) :: As).reverse ++ rest) (hw : (rest.map fun v => v.category).sum ≤ 8)
    (hR : rm.frames + 1 ≤ R.frames ∧ 8 + (maxL + 11) + rm.locals ≤ R.locals) (hc2 : cells + rm.cells ≤ c2 ∧ slots + rm.slots ≤ s2) (hf : c2 ≤ R.cells ∧ s2 ≤ R.slots) (hdg : decode cc pc = .ok (.invokestatic index, 3))
    (kk : ∀ (g : Nat → Nat → Int32) (z : Nat → Nat) (H1 : Heap) (locs1 : List Loc), isL L' g z → va_P D vwCl (rlW cA ad g z) H1 → va_D A (rlW cA ad g z) → va_S A s.heap H1 locs1 → W p l e R s m args below meth c H1 locs1 c2 s2 Q (F0 m (pc + 3) ls (.int r :: rest))) : W p l e R s m args below meth c H locs cells slots Q (F0 m pc ls st) := by
  refine q_callP C.hx C.hb C.hml C.hown C.hT C.hK hP hD hS C.hA C.hX C.hN C.hZ (hM g z hs) km kl q_BG_adr hl hlen hst hw hR hc2 hf hdg ?_
  rintro w H1 locs1 ⟨g2, z2, rfl, h2⟩ hP1 hD1 hS1
  exact kk g2 z2 H1 locs1 h2 hP1 hD1 hS1
end QC
theorem inv_sc {g : Nat → Nat → Int32} {z : Nat → Nat} {k : Nat} {f : Nat → Int32} (hk : scB k = true) (hI : inv g z) : inv (gs g k f) z := by
  have e : ∀ j, scB j = false → gs g k f j = g j := fun j hj => gs_n g f (fun q => by rw [q, hk] at hj; cases hj)
  unfold inv rY rP rK rO at *
  rw [e 0 rfl, e 1 rfl, e 2 rfl, e 3 rfl, e 4 rfl, e 5 rfl, e 8 rfl, e 9 rfl, e 10 rfl, e 11 rfl, e 12 rfl, e 13 rfl, e 14 rfl, e 15 rfl, e 16 rfl, e 17 rfl, e 18 rfl, e 22 rfl, e 23 rfl]
  exact hI
section CA
variable {l : Launch} {D : va_G} {cA : ClassId} {ad : Nat → Nat} {L L' : List (List Nat)}
theorem ca_mention (p0 p1 p2 p3 r : Int32) (h : cst l yX5_mention [Cond.code yX5_mention cX5_mention 6 (some .int)] rm_X5_mention D cA ad [.int p0, .int p1, .int p2, .int p3] L L' r) : csl l yL_act cwA rm_A D cA ad [.int (nI 0), .int p0, .int p1, .int p2, .int p3] L L' r := by
  intro g z hs
  obtain ⟨g2, z2, h1, h2⟩ := h g z hs
  exact (ao_mention l D cA ad g g2 z z2 p0 p1 p2 p3 rm_X5_mention r ⟨rfl, rfl, Nat.le_of_ble_eq_true rfl, Nat.le_of_ble_eq_true rfl⟩ h1).mono rfl (fun x hx => ⟨g2, z2, hx, h2⟩)
theorem ca_ahead (p0 p1 p2 p3 r : Int32) (h : cst l yX5_ahead [Cond.code yX5_ahead cX5_ahead 5 (some .int)] rm_X5_ahead D cA ad [.int p0, .int p1, .int p2] L L' r) : csl l yL_act cwA rm_A D cA ad [.int (nI 3), .int p0, .int p1, .int p2, .int p3] L L' r := by
  intro g z hs
  obtain ⟨g2, z2, h1, h2⟩ := h g z hs
  exact (ao_ahead l D cA ad g g2 z z2 p0 p1 p2 p3 rm_X5_ahead r ⟨rfl, rfl, Nat.le_of_ble_eq_true rfl, Nat.le_of_ble_eq_true rfl⟩ h1).mono rfl (fun x hx => ⟨g2, z2, hx, h2⟩)
theorem ca_split (p0 p1 p2 p3 r : Int32) (h : cst l yX5_split [Cond.code yX5_split cX5_split 2 (some .int)] rm_X5_split D cA ad [.int p0] L L' r) : csl l yL_act cwA rm_A D cA ad [.int (nI 13), .int p0, .int p1, .int p2, .int p3] L L' r := by
  intro g z hs
  obtain ⟨g2, z2, h1, h2⟩ := h g z hs
  exact (ao_split l D cA ad g g2 z z2 p0 p1 p2 p3 rm_X5_split r ⟨rfl, rfl, Nat.le_of_ble_eq_true rfl, Nat.le_of_ble_eq_true rfl⟩ h1).mono rfl (fun x hx => ⟨g2, z2, hx, h2⟩)
theorem cx_join (htr : l.stackTraces = false) (i j : Nat) (c d : Int32) (h : (ck2 L i j && !Nat.beq (raG (cG L) (cZ L 0) i j) 0) = true) : csl l yL_act cwA rm_A D cA ad [.int (nI 12), .int (nI i), .int (nI j), .int c, .int d] L L (-7000003) := by
  rintro g z ⟨g, z, rfl, rfl, hI⟩
  obtain ⟨ha, hb⟩ := band h
  obtain ⟨h1, h2, h3⟩ := ck2_of ha
  have hra : ¬ raG (mixG L g) (mixZ L z 0) i j = 0 := by
    rw [raG_cg (g' := mixG L g) (g := cG L) rfl rfl rfl rfl rfl rfl rfl rfl rfl rfl]
    exact neB hb
  exact (ax_join_ise l D cA ad (mixG L g) _ (mixZ L z) _ ((nI i)) ((nI j)) (c) (d) _ ⟨rfl, rfl, Nat.le_of_ble_eq_true rfl, Nat.le_of_ble_eq_true rfl⟩ (c_X5_joinx4 l htr D cA ad (mixG L g) (mixZ L z) i j h1 h2 hI.hz0 h3 hra)).mono rfl (fun x hx => ⟨_, _, hx, ⟨g, z, rfl, rfl, hI⟩⟩)
theorem cx_split (htr : l.stackTraces = false) (i : Nat) (b c d : Int32) (h : (Nat.blt i (cZ L 0) && Nat.blt (cntN (cG L 22) (cG L 22 i) (cZ L 0)) 2) = true) : csl l yL_act cwA rm_A D cA ad [.int (nI 13), .int (nI i), .int b, .int c, .int d] L L (-7000003) := by
  rintro g z ⟨g, z, rfl, rfl, hI⟩
  obtain ⟨h1, h2⟩ := band h
  exact (ax_split_ise l D cA ad (mixG L g) _ (mixZ L z) _ ((nI i)) (b) (c) (d) _ ⟨rfl, rfl, Nat.le_of_ble_eq_true rfl, Nat.le_of_ble_eq_true rfl⟩ (c_X5_splitx2 l htr D cA ad (mixG L g) (mixZ L z) i (ltB h1) hI.hz0 (ltB h2))).mono rfl (fun x hx => ⟨_, _, hx, ⟨g, z, rfl, rfl, hI⟩⟩)
theorem cx_split2 (htr : l.stackTraces = false) (i : Nat) (b c d : Int32) (h : ((Nat.blt i (cZ L 0) && Nat.ble 2 (cntN (cG L 22) (cG L 22 i) (cZ L 0))) && Nat.ble 40 (cZ L 2)) = true) : csl l yL_act cwA rm_A D cA ad [.int (nI 13), .int (nI i), .int b, .int c, .int d] L L (-7000003) := by
  rintro g z ⟨g, z, rfl, rfl, hI⟩
  obtain ⟨ha, h3⟩ := band h
  obtain ⟨h1, h2⟩ := band ha
  exact (ax_split_ise l D cA ad (mixG L g) _ (mixZ L z) _ ((nI i)) (b) (c) (d) _ ⟨rfl, rfl, Nat.le_of_ble_eq_true rfl, Nat.le_of_ble_eq_true rfl⟩ (c_X5_splitx3 l htr D cA ad (mixG L g) (mixZ L z) i (ltB h1) hI.hz0 (Nat.le_of_ble_eq_true h2) (Nat.le_of_ble_eq_true h3) hI.hz2)).mono rfl (fun x hx => ⟨_, _, hx, ⟨g, z, rfl, rfl, hI⟩⟩)
theorem cx_mention (htr : l.stackTraces = false) (nm fm pl po : Int32) (hpo : po = (-1) ∨ q_r po 8) (h : ((decide (¬ nm < nI 0 ∧ nm ≤ nI 9) && decide (¬ fm < (-1) ∧ fm ≤ nI 9)) && (decide (¬ pl < nI 0 ∧ pl ≤ nI 5) && Nat.ble 16 (cZ L 0))) = true) : csl l yL_act cwA rm_A D cA ad [.int (nI 0), .int nm, .int fm, .int pl, .int po] L L (-7000003) := by
  rintro g z ⟨g, z, rfl, rfl, hI⟩
  obtain ⟨ha, hb⟩ := band h
  obtain ⟨h1, h2⟩ := band ha
  obtain ⟨h3, h4⟩ := band hb
  exact (ax_mention_ise l D cA ad (mixG L g) _ (mixZ L z) _ (nm) (fm) (pl) (po) _ ⟨rfl, rfl, Nat.le_of_ble_eq_true rfl, Nat.le_of_ble_eq_true rfl⟩ (c_X5_mentionx5 l htr D cA ad (mixG L g) (mixZ L z) nm fm pl po hpo (of_decide_eq_true h1) (of_decide_eq_true h2) (of_decide_eq_true h3) (Nat.le_of_ble_eq_true h4) hI.hz0)).mono rfl (fun x hx => ⟨_, _, hx, ⟨g, z, rfl, rfl, hI⟩⟩)
theorem cx_aheadF (htr : l.stackTraces = false) (i j : Nat) (w d : Int32) (h : (ck2 L i j && (decide (¬ w < (-50) ∧ w ≤ nI 50) && Nat.beq (cZ L 1) 40)) = true) : csl l yL_act cwA rm_A D cA ad [.int (nI 3), .int (nI i), .int (nI j), .int w, .int d] L L (-7000003) := by
  rintro g z ⟨g, z, rfl, rfl, hI⟩
  obtain ⟨ha, hb⟩ := band h
  obtain ⟨h1, h2, h3⟩ := ck2_of ha
  obtain ⟨h4, h5⟩ := band hb
  exact (ax_ahead_ise l D cA ad (mixG L g) _ (mixZ L z) _ ((nI i)) ((nI j)) (w) (d) _ ⟨rfl, rfl, Nat.le_of_ble_eq_true rfl, Nat.le_of_ble_eq_true rfl⟩ (c_X5_aheadx5 l htr D cA ad (mixG L g) (mixZ L z) i j w h1 h2 hI.hz0 h3 (of_decide_eq_true h4) (Nat.eq_of_beq_eq_true h5))).mono rfl (fun x hx => ⟨_, _, hx, ⟨g, z, rfl, rfl, hI⟩⟩)
theorem cx_ahead (htr : l.stackTraces = false) (L' : List (List Nat)) (i j : Nat) (w d : Int32) (h : ((ck2 L i j && (decide (¬ w < (-50) ∧ w ≤ nI 50) && Nat.blt (cZ L 1) 40)) && (!ahD (cG L) (cZ L) i j w && agB L' (gs (gs (gs (cG L) 14 (upd (cG L 14) (cZ L 1) (nI i))) 15 (upd (cG L 15) (cZ L 1) (nI j))) 16 (upd (cG L 16) (cZ L 1) w)) (cZ L))) = true) : csl l yL_act cwA rm_A D cA ad [.int (nI 3), .int (nI i), .int (nI j), .int w, .int d] L L' (-7000003) := by
  rintro g z ⟨g, z, rfl, rfl, hI⟩
  obtain ⟨ha, hb⟩ := band h
  obtain ⟨h0, hc⟩ := band ha
  obtain ⟨h4, h5⟩ := band hc
  obtain ⟨h6, h7⟩ := band hb
  obtain ⟨h1, h2, h3⟩ := ck2_of h0
  have h9 : ahD (cG L) (cZ L) i j w = false := by
    cases hq : ahD (cG L) (cZ L) i j w with
    | false => rfl
    | true => rw [hq] at h6; cases h6
  obtain ⟨a1, a2⟩ := oy_aheadx (D := D) (cA := cA) (ad := ad) htr hI h1 h2 h3 (of_decide_eq_true h4) (ltB h5) h9
  have hpe : ∀ j9, scB j9 = false → axG (mixG L g) (mixZ L z) i j w j9 = (gs (gs (gs (cG L) 14 (upd (cG L 14) (cZ L 1) (nI i))) 15 (upd (cG L 15) (cZ L 1) (nI j))) 16 (upd (cG L 16) (cZ L 1) w)) j9 := by
    refine pe_sc rfl (pe_sc rfl ?_)
    rw [show gs (gs (gs (gs (gs (mixG L g) 14 (upd (mixG L g 14) (mixZ L z 1) (nI i))) 15 (upd (mixG L g 15) (mixZ L z 1) (nI j))) 16 (upd (mixG L g 16) (mixZ L z 1) w)) 17 (mixG L g 17)) 18 (mixG L g 18) = gs (gs (gs (mixG L g) 14 (upd (mixG L g 14) (mixZ L z 1) (nI i))) 15 (upd (mixG L g 15) (mixZ L z 1) (nI j))) 16 (upd (mixG L g 16) (mixZ L z 1) w) from (gs_same (g := gs (gs (gs (gs (mixG L g) 14 (upd (mixG L g 14) (mixZ L z 1) (nI i))) 15 (upd (mixG L g 15) (mixZ L z 1) (nI j))) 16 (upd (mixG L g 16) (mixZ L z 1) w)) 17 (mixG L g 17)) 18).trans (gs_same (g := gs (gs (gs (mixG L g) 14 (upd (mixG L g 14) (mixZ L z 1) (nI i))) 15 (upd (mixG L g 15) (mixZ L z 1) (nI j))) 16 (upd (mixG L g 16) (mixZ L z 1) w)) 17)]
    exact pe_gs (pe_gs (pe_gs pe_mix))
  exact (ax_ahead_ise l D cA ad (mixG L g) _ (mixZ L z) _ ((nI i)) ((nI j)) (w) (d) _ ⟨rfl, rfl, Nat.le_of_ble_eq_true rfl, Nat.le_of_ble_eq_true rfl⟩ (a1)).mono rfl (fun x hx => ⟨_, _, hx, nx hpe ⟨rfl, rfl, rfl⟩ a2 h7⟩)
theorem cx_find (htr : l.stackTraces = false) (i : Nat) (lo hi d : Int32) (h : ((Nat.blt i (cZ L 0) && (decide (¬ lo < nI 0 ∧ lo ≤ nI 999) && decide (¬ hi < lo ∧ hi ≤ nI 999))) && !fnD (cG L) (cZ L) i lo hi) = true) : csl l yL_act cwA rm_A D cA ad [.int (nI 4), .int (nI i), .int lo, .int hi, .int d] L L (-7000003) := by
  rintro g z ⟨g, z, rfl, rfl, hI⟩
  obtain ⟨ha, hb⟩ := band h
  obtain ⟨h1, hc⟩ := band ha
  obtain ⟨h2, h3⟩ := band hc
  have h9 : fnD (cG L) (cZ L) i lo hi = false := by
    cases hq : fnD (cG L) (cZ L) i lo hi with
    | false => rfl
    | true => rw [hq] at hb; cases hb
  obtain ⟨a1, a2⟩ := oy_findx (D := D) (cA := cA) (ad := ad) htr hI (ltB h1) (of_decide_eq_true h2) (of_decide_eq_true h3) h9
  exact (ax_find_ise l D cA ad (mixG L g) _ (mixZ L z) _ ((nI i)) (lo) (hi) (d) _ ⟨rfl, rfl, Nat.le_of_ble_eq_true rfl, Nat.le_of_ble_eq_true rfl⟩ (a1)).mono rfl (fun x hx => ⟨_, _, hx, nx0 ⟨g, z, rfl, rfl, hI⟩ (pe_sc rfl (pe_sc rfl (fun _ _ => rfl))) ⟨rfl, rfl, rfl⟩ a2⟩)
theorem cs_year (k : Nat) (b : Bool) (r : Nat) (h : (Nat.blt k (cZ L 0) && decide ((bif b then cG L 18 k else cG L 17 k) = nI r)) = true) : cst l yX5_year [Cond.code yX5_year cX5_year 3 (some .int)] rm_X5_year D cA ad [.int (nI k), .int (q_b b)] L L (nI r) := by
  rintro g z ⟨g, z, rfl, rfl, hI⟩
  obtain ⟨h1, h2⟩ := band h
  exact ⟨_, _, q_CIr (c_X5_year l D cA ad (mixG L g) (mixZ L z) k b (ltB h1) hI.hz0) (of_decide_eq_true h2), ⟨g, z, rfl, rfl, hI⟩⟩
theorem cs_yearAnew (k : Nat) (b : Bool) (r : Nat) (h : (Nat.blt k (cZ L 0) && decide ((bif b then cG L 18 k else cG L 17 k) = nI r)) = true) : cst l yX5_yearAnew [Cond.code yX5_yearAnew cX5_yearAnew 3 (some .int)] rm_X5_yearAnew D cA ad [.int (nI k), .int (q_b b)] L L (nI r) := by
  rintro g z ⟨g', z', e1, e2, hI⟩
  obtain ⟨h1, h2⟩ := band h
  have h1 : k < z 0 := by rw [e2]; exact ltB h1
  obtain ⟨w1, w2⟩ := ways_ok hI.1 hI.hz0 h1
  have c5 := c_X5_yearAnew l D cA ad g z k b h1 hI.hz0 hI.hE hI.hz1
  rw [w1, w2] at c5
  have hr : (bif b then g 18 k else g 17 k) = nI r := by rw [e1]; exact of_decide_eq_true h2
  obtain ⟨X, hX⟩ : ∃ X, X = allW (g 14) (g 15) (g 16) (z 1) := ⟨_, rfl⟩
  rw [← hX] at c5
  exact ⟨_, _, q_CIr c5 hr, nx0 ⟨g', z', e1, e2, hI⟩ (pe_sc rfl (fun _ _ => rfl)) ⟨rfl, rfl, rfl⟩ (inv_sc rfl hI)⟩
end CA
abbrev rm_Lw : Room := { frames := 9, cells := 0, slots := 0, locals := 180 }
set_option maxRecDepth 100000 in
set_option maxHeartbeats 4000000 in
theorem cs_Lweight {l : Launch} (htr : l.stackTraces = false) {D : va_G} {cA : ClassId} {ad : Nat → Nat} {L : List (List Nat)} (i j w y : Nat) (h : ((((ck2 L i j && Nat.beq (wtN (cG L) i j) w) && (ck2 L j i && Nat.beq (wtN (cG L) j i) w)) && (ck2 L i j && Nat.beq (raG (cG L) (cZ L 0) i j) y)) && (ck2 L j i && Nat.beq (raG (cG L) (cZ L 0) j i) y)) = true) : csl l yL_weight [Cond.code yL_weight cL_weight 5 (some .boolean)] rm_Lw D cA ad [.int (nI i), .int (nI j), .int (nI w), .int (nI y)] L L (nI 1) := by
  obtain ⟨ha, h4⟩ := band h
  obtain ⟨hb9, h3⟩ := band ha
  obtain ⟨h1, h2⟩ := band hb9
  intro g z hs
  refine q_startP RL (by decide +kernel) rfl (Nat.le_of_ble_eq_true rfl) ?_
  intro p e s m below meth c A args H locs ls hx hb hr hml hown hT hlk hP hK hD hA hS hl hX hN hZ
  have C : lcx p l s m c cL_weight 5 D cA A := ⟨hx, hb, hml, hown, hT, hK, hA, hX, hN, hZ, htr⟩
  have hl : lv_has ls 5 [(0, .ref (ad 70)), (1, .int (nI i)), (2, .int (nI j)), (3, .int (nI w)), (4, .int (nI y))] := hl
  refine lv_aload_n hx hb dL_weight_0 rfl (lv_at hl 0 rfl) ?_
  refine lv_iload_n hx hb dL_weight_1 rfl (lv_at hl 1 rfl) ?_
  refine lv_iload_n hx hb dL_weight_2 rfl (lv_at hl 2 rfl) ?_
  refine q_cO (As := [.int (nI i), .int (nI j)]) C hs hP hD hS (cs_weight i j w h1) k_X5_weight kl_L_45 rfl hl rfl rfl (Nat.le_of_ble_eq_true rfl) ⟨⟨rfl, rfl⟩, Nat.le_of_ble_eq_true rfl, Nat.le_of_ble_eq_true rfl⟩ ⟨Nat.zero_le _, Nat.zero_le _⟩ dL_weight_3 (fun g z H locs hs hP hD hS => ?_)
  refine lv_iload_n hx hb dL_weight_6 rfl (lv_at hl 3 rfl) ?_
  refine lv_icmp_ne (tgt := 46) hx hb dL_weight_7 (by decide) (fun c9 => absurd rfl c9) (fun _ => ?_)
  refine lv_aload_n hx hb dL_weight_10 rfl (lv_at hl 0 rfl) ?_
  refine lv_iload_n hx hb dL_weight_11 rfl (lv_at hl 2 rfl) ?_
  refine lv_iload_n hx hb dL_weight_12 rfl (lv_at hl 1 rfl) ?_
  refine q_cO (As := [.int (nI j), .int (nI i)]) C hs hP hD hS (cs_weight j i w h2) k_X5_weight kl_L_45 rfl hl rfl rfl (Nat.le_of_ble_eq_true rfl) ⟨⟨rfl, rfl⟩, Nat.le_of_ble_eq_true rfl, Nat.le_of_ble_eq_true rfl⟩ ⟨Nat.zero_le _, Nat.zero_le _⟩ dL_weight_13 (fun g z H locs hs hP hD hS => ?_)
  refine lv_iload_n hx hb dL_weight_16 rfl (lv_at hl 3 rfl) ?_
  refine lv_icmp_ne (tgt := 46) hx hb dL_weight_17 (by decide) (fun c9 => absurd rfl c9) (fun _ => ?_)
  refine lv_aload_n hx hb dL_weight_20 rfl (lv_at hl 0 rfl) ?_
  refine lv_iload_n hx hb dL_weight_21 rfl (lv_at hl 1 rfl) ?_
  refine lv_iload_n hx hb dL_weight_22 rfl (lv_at hl 2 rfl) ?_
  refine q_cO (As := [.int (nI i), .int (nI j)]) C hs hP hD hS (cs_whyNot i j y h3) k_X5_whyNot kl_L_48 rfl hl rfl rfl (Nat.le_of_ble_eq_true rfl) ⟨⟨rfl, rfl⟩, Nat.le_of_ble_eq_true rfl, Nat.le_of_ble_eq_true rfl⟩ ⟨Nat.zero_le _, Nat.zero_le _⟩ dL_weight_23 (fun g z H locs hs hP hD hS => ?_)
  refine lv_iload hx hb dL_weight_26 (lv_at hl 4 rfl) ?_
  refine lv_icmp_ne (tgt := 46) hx hb dL_weight_28 (by decide) (fun c9 => absurd rfl c9) (fun _ => ?_)
  refine lv_aload_n hx hb dL_weight_31 rfl (lv_at hl 0 rfl) ?_
  refine lv_iload_n hx hb dL_weight_32 rfl (lv_at hl 2 rfl) ?_
  refine lv_iload_n hx hb dL_weight_33 rfl (lv_at hl 1 rfl) ?_
  refine q_cO (As := [.int (nI j), .int (nI i)]) C hs hP hD hS (cs_whyNot j i y h4) k_X5_whyNot kl_L_48 rfl hl rfl rfl (Nat.le_of_ble_eq_true rfl) ⟨⟨rfl, rfl⟩, Nat.le_of_ble_eq_true rfl, Nat.le_of_ble_eq_true rfl⟩ ⟨Nat.zero_le _, Nat.zero_le _⟩ dL_weight_34 (fun g z H locs hs hP hD hS => ?_)
  refine lv_iload hx hb dL_weight_37 (lv_at hl 4 rfl) ?_
  refine lv_icmp_ne (tgt := 46) hx hb dL_weight_39 (by decide) (fun c9 => absurd rfl c9) (fun _ => ?_)
  refine lv_iconst (v := nI 1) hx hb dL_weight_42 (by decide +kernel) ?_
  refine lv_goto (tgt := 47) hx hb dL_weight_43 (by decide) ?_
  exact q_lzret hx hb hr hlk (Or.inr rfl) rfl ⟨g, z, rfl, hs⟩ hP hS (Nat.le_refl _) (Nat.le_refl _) dL_weight_47
set_option maxRecDepth 100000 in
set_option maxHeartbeats 4000000 in
theorem cs_Lyears {l : Launch} (htr : l.stackTraces = false) {D : va_G} {cA : ClassId} {ad : Nat → Nat} {L : List (List Nat)} (i j w : Nat) (h : ((Nat.blt i (cZ L 0) && decide ((bif false then cG L 18 i else cG L 17 i) = nI j)) && (Nat.blt i (cZ L 0) && decide ((bif true then cG L 18 i else cG L 17 i) = nI w))) = true) : csl l yL_years [Cond.code yL_years cL_years 4 (some .boolean)] rm_Lw D cA ad [.int (nI i), .int (nI j), .int (nI w)] L L (nI 1) := by
  obtain ⟨h1, h2⟩ := band h
  intro g z hs
  refine q_startP RL (by decide +kernel) rfl (Nat.le_of_ble_eq_true rfl) ?_
  intro p e s m below meth c A args H locs ls hx hb hr hml hown hT hlk hP hK hD hA hS hl hX hN hZ
  have C : lcx p l s m c cL_years 4 D cA A := ⟨hx, hb, hml, hown, hT, hK, hA, hX, hN, hZ, htr⟩
  have hl : lv_has ls 4 [(0, .ref (ad 70)), (1, .int (nI i)), (2, .int (nI j)), (3, .int (nI w))] := hl
  refine lv_aload_n hx hb dL_years_0 rfl (lv_at hl 0 rfl) ?_
  refine lv_iload_n hx hb dL_years_1 rfl (lv_at hl 1 rfl) ?_
  refine lv_iconst (v := nI 0) hx hb dL_years_2 (by decide +kernel) ?_
  refine q_cO (As := [.int (nI i), .int (q_b false)]) C hs hP hD hS (cs_year i false j h1) k_X5_year kl_L_31 rfl hl rfl rfl (Nat.le_of_ble_eq_true rfl) ⟨⟨rfl, rfl⟩, Nat.le_of_ble_eq_true rfl, Nat.le_of_ble_eq_true rfl⟩ ⟨Nat.zero_le _, Nat.zero_le _⟩ dL_years_3 (fun g z H locs hs hP hD hS => ?_)
  refine lv_iload_n hx hb dL_years_6 rfl (lv_at hl 2 rfl) ?_
  refine lv_icmp_ne (tgt := 44) hx hb dL_years_7 (by decide) (fun c9 => absurd rfl c9) (fun _ => ?_)
  refine lv_aload_n hx hb dL_years_10 rfl (lv_at hl 0 rfl) ?_
  refine lv_iload_n hx hb dL_years_11 rfl (lv_at hl 1 rfl) ?_
  refine lv_iconst (v := nI 1) hx hb dL_years_12 (by decide +kernel) ?_
  refine q_cO (As := [.int (nI i), .int (q_b true)]) C hs hP hD hS (cs_year i true w h2) k_X5_year kl_L_31 rfl hl rfl rfl (Nat.le_of_ble_eq_true rfl) ⟨⟨rfl, rfl⟩, Nat.le_of_ble_eq_true rfl, Nat.le_of_ble_eq_true rfl⟩ ⟨Nat.zero_le _, Nat.zero_le _⟩ dL_years_13 (fun g z H locs hs hP hD hS => ?_)
  refine lv_iload_n hx hb dL_years_16 rfl (lv_at hl 3 rfl) ?_
  refine lv_icmp_ne (tgt := 44) hx hb dL_years_17 (by decide) (fun c9 => absurd rfl c9) (fun _ => ?_)
  refine lv_aload_n hx hb dL_years_20 rfl (lv_at hl 0 rfl) ?_
  refine lv_iload_n hx hb dL_years_21 rfl (lv_at hl 1 rfl) ?_
  refine lv_iconst (v := nI 0) hx hb dL_years_22 (by decide +kernel) ?_
  refine q_cO (As := [.int (nI i), .int (q_b false)]) C hs hP hD hS (cs_yearAnew i false j h1) k_X5_yearAnew kl_L_35 rfl hl rfl rfl (Nat.le_of_ble_eq_true rfl) ⟨⟨rfl, rfl⟩, Nat.le_of_ble_eq_true rfl, Nat.le_of_ble_eq_true rfl⟩ ⟨Nat.zero_le _, Nat.zero_le _⟩ dL_years_23 (fun g z H locs hs hP hD hS => ?_)
  refine lv_iload_n hx hb dL_years_26 rfl (lv_at hl 2 rfl) ?_
  refine lv_icmp_ne (tgt := 44) hx hb dL_years_27 (by decide) (fun c9 => absurd rfl c9) (fun _ => ?_)
  refine lv_aload_n hx hb dL_years_30 rfl (lv_at hl 0 rfl) ?_
  refine lv_iload_n hx hb dL_years_31 rfl (lv_at hl 1 rfl) ?_
  refine lv_iconst (v := nI 1) hx hb dL_years_32 (by decide +kernel) ?_
  refine q_cO (As := [.int (nI i), .int (q_b true)]) C hs hP hD hS (cs_yearAnew i true w h2) k_X5_yearAnew kl_L_35 rfl hl rfl rfl (Nat.le_of_ble_eq_true rfl) ⟨⟨rfl, rfl⟩, Nat.le_of_ble_eq_true rfl, Nat.le_of_ble_eq_true rfl⟩ ⟨Nat.zero_le _, Nat.zero_le _⟩ dL_years_33 (fun g z H locs hs hP hD hS => ?_)
  refine lv_iload_n hx hb dL_years_36 rfl (lv_at hl 3 rfl) ?_
  refine lv_icmp_ne (tgt := 44) hx hb dL_years_37 (by decide) (fun c9 => absurd rfl c9) (fun _ => ?_)
  refine lv_iconst (v := nI 1) hx hb dL_years_40 (by decide +kernel) ?_
  refine lv_goto (tgt := 45) hx hb dL_years_41 (by decide) ?_
  exact q_lzret hx hb hr hlk (Or.inr rfl) rfl ⟨g, z, rfl, hs⟩ hP hS (Nat.le_refl _) (Nat.le_refl _) dL_years_45
