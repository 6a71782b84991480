/-! a state by its arrays g and its numbers z -/
def gs (g : Nat → Nat → Int32) (k : Nat) (f : Nat → Int32) : Nat → Nat → Int32 := fun j => bif Nat.beq j k then f else g j
def zs (z : Nat → Nat) (k v : Nat) : Nat → Nat := fun j => bif Nat.beq j k then v else z j
theorem gs_s (g : Nat → Nat → Int32) (k : Nat) (f : Nat → Int32) : gs g k f k = f := by simp [gs]
theorem gs_n (g : Nat → Nat → Int32) {k j : Nat} (f : Nat → Int32) (h : j ≠ k) : gs g k f j = g j := by
  show (bif Nat.beq j k then f else g j) = g j
  cases hb : Nat.beq j k with
  | false => rfl
  | true => exact absurd (Nat.eq_of_beq_eq_true hb) h
theorem zs_s (z : Nat → Nat) (k v : Nat) : zs z k v k = v := by simp [zs]
theorem zs_n (z : Nat → Nat) {k j : Nat} (v : Nat) (h : j ≠ k) : zs z k v j = z j := by
  show (bif Nat.beq j k then v else z j) = z j
  cases hb : Nat.beq j k with
  | false => rfl
  | true => exact absurd (Nat.eq_of_beq_eq_true hb) h
abbrev yrW (cA : ClassId) (ad : Nat → Nat) (g : Nat → Nat → Int32) (z : Nat → Nat) : va_W := [(ad 71, .inr (4, [.ref (ad 12), .ref (ad 13), .ref (ad 14), .ref (ad 15), .ref (ad 16), .ref (ad 17), .ref (ad 18), .ref (ad 19), .ref (ad 20), .ref (ad 21), .int (nI (z 1))])), (ad 12, .inr (3, [.ref (ad 42)])), (ad 42, .inl (cA, 16, .inl (g 12))), (ad 13, .inr (3, [.ref (ad 43)])), (ad 43, .inl (cA, 16, .inl (g 13))), (ad 14, .inr (3, [.ref (ad 44)])), (ad 44, .inl (cA, 40, .inl (g 14))), (ad 15, .inr (3, [.ref (ad 45)])), (ad 45, .inl (cA, 40, .inl (g 15))), (ad 16, .inr (3, [.ref (ad 46)])), (ad 46, .inl (cA, 40, .inl (g 16))), (ad 17, .inr (3, [.ref (ad 47)])), (ad 47, .inl (cA, 16, .inl (g 17))), (ad 18, .inr (3, [.ref (ad 48)])), (ad 48, .inl (cA, 16, .inl (g 18))), (ad 19, .inr (3, [.ref (ad 49)])), (ad 49, .inl (cA, 16, .inl (g 19))), (ad 20, .inr (3, [.ref (ad 50)])), (ad 50, .inl (cA, 16, .inl (g 20))), (ad 21, .inr (3, [.ref (ad 51)])), (ad 51, .inl (cA, 256, .inl (g 21)))]
def yrW_a (ad : Nat → Nat) : List Nat := [ad 71, ad 12, ad 42, ad 13, ad 43, ad 14, ad 44, ad 15, ad 45, ad 16, ad 46, ad 17, ad 47, ad 18, ad 48, ad 19, ad 49, ad 20, ad 50, ad 21, ad 51]
theorem yrW_adr (cA : ClassId) (ad : Nat → Nat) (g : Nat → Nat → Int32) (z : Nat → Nat) : (yrW cA ad g z).map Prod.fst = yrW_a ad := rfl
abbrev psW (cA : ClassId) (ad : Nat → Nat) (g : Nat → Nat → Int32) (z : Nat → Nat) : va_W := [(ad 72, .inr (2, [.ref (ad 22), .ref (ad 23), .int (nI (z 2))])), (ad 22, .inr (3, [.ref (ad 52)])), (ad 52, .inl (cA, 16, .inl (g 22))), (ad 23, .inr (3, [.ref (ad 53)])), (ad 53, .inl (cA, 40, .inl (g 23)))]
def psW_a (ad : Nat → Nat) : List Nat := [ad 72, ad 22, ad 52, ad 23, ad 53]
theorem psW_adr (cA : ClassId) (ad : Nat → Nat) (g : Nat → Nat → Int32) (z : Nat → Nat) : (psW cA ad g z).map Prod.fst = psW_a ad := rfl
abbrev gpW (cA : ClassId) (ad : Nat → Nat) (g : Nat → Nat → Int32) (z : Nat → Nat) : va_W := [(ad 73, .inr (0, [.ref (ad 24), .ref (ad 25), .ref (ad 26), .ref (ad 27), .ref (ad 28), .int (nI (z 3))])), (ad 24, .inr (3, [.ref (ad 54)])), (ad 54, .inl (cA, 6, .inl (g 24))), (ad 25, .inr (3, [.ref (ad 55)])), (ad 55, .inl (cA, 36, .inl (g 25))), (ad 26, .inr (3, [.ref (ad 56)])), (ad 56, .inl (cA, 64, .inl (g 26))), (ad 27, .inr (3, [.ref (ad 57)])), (ad 57, .inl (cA, 64, .inl (g 27))), (ad 28, .inr (3, [.ref (ad 58)])), (ad 58, .inl (cA, 6, .inl (g 28)))]
def gpW_a (ad : Nat → Nat) : List Nat := [ad 73, ad 24, ad 54, ad 25, ad 55, ad 26, ad 56, ad 27, ad 57, ad 28, ad 58]
theorem gpW_adr (cA : ClassId) (ad : Nat → Nat) (g : Nat → Nat → Int32) (z : Nat → Nat) : (gpW cA ad g z).map Prod.fst = gpW_a ad := rfl
abbrev rl_a (cA : ClassId) (ad : Nat → Nat) (g : Nat → Nat → Int32) (z : Nat → Nat) : va_W := [(ad 70, .inr (5, [.ref (ad 0), .ref (ad 1), .ref (ad 2), .ref (ad 3), .ref (ad 4), .ref (ad 5), .ref (ad 60), .ref (ad 61), .ref (ad 62), .ref (ad 63), .ref (ad 71), .ref (ad 72), .ref (ad 73), .ref (ad 6), .ref (ad 7), .int (nI (z 0))])), (ad 0, .inr (3, [.ref (ad 30)])), (ad 30, .inl (cA, 16, .inl (g 0))), (ad 1, .inr (3, [.ref (ad 31)])), (ad 31, .inl (cA, 16, .inl (g 1))), (ad 2, .inr (3, [.ref (ad 32)])), (ad 32, .inl (cA, 16, .inl (g 2))), (ad 3, .inr (3, [.ref (ad 33)])), (ad 33, .inl (cA, 16, .inl (g 3))), (ad 4, .inr (3, [.ref (ad 34)])), (ad 34, .inl (cA, 16, .inl (g 4))), (ad 5, .inr (3, [.ref (ad 35)])), (ad 35, .inl (cA, 8, .inl (g 5))), (ad 6, .inr (3, [.ref (ad 36)])), (ad 36, .inl (cA, 16, .inl (g 6))), (ad 7, .inr (3, [.ref (ad 37)])), (ad 37, .inl (cA, 40, .inl (g 7))), (ad 60, .inr (1, [.ref (ad 8)])), (ad 8, .inr (3, [.ref (ad 38)])), (ad 38, .inl (cA, 8, .inl (g 8))), (ad 61, .inr (1, [.ref (ad 9)])), (ad 9, .inr (3, [.ref (ad 39)])), (ad 39, .inl (cA, 16, .inl (g 9))), (ad 62, .inr (1, [.ref (ad 10)])), (ad 10, .inr (3, [.ref (ad 40)])), (ad 40, .inl (cA, 16, .inl (g 10))), (ad 63, .inr (1, [.ref (ad 11)])), (ad 11, .inr (3, [.ref (ad 41)])), (ad 41, .inl (cA, 16, .inl (g 11)))]
def rl_a_a (ad : Nat → Nat) : List Nat := [ad 70, ad 0, ad 30, ad 1, ad 31, ad 2, ad 32, ad 3, ad 33, ad 4, ad 34, ad 5, ad 35, ad 6, ad 36, ad 7, ad 37, ad 60, ad 8, ad 38, ad 61, ad 9, ad 39, ad 62, ad 10, ad 40, ad 63, ad 11, ad 41]
theorem rl_a_adr (cA : ClassId) (ad : Nat → Nat) (g : Nat → Nat → Int32) (z : Nat → Nat) : (rl_a cA ad g z).map Prod.fst = rl_a_a ad := rfl
abbrev rlW (cA : ClassId) (ad : Nat → Nat) (g : Nat → Nat → Int32) (z : Nat → Nat) : va_W := rl_a cA ad g z ++ (yrW cA ad g z ++ (psW cA ad g z ++ (gpW cA ad g z)))
def rlW_a (ad : Nat → Nat) : List Nat := [ad 70, ad 0, ad 30, ad 1, ad 31, ad 2, ad 32, ad 3, ad 33, ad 4, ad 34, ad 5, ad 35, ad 6, ad 36, ad 7, ad 37, ad 60, ad 8, ad 38, ad 61, ad 9, ad 39, ad 62, ad 10, ad 40, ad 63, ad 11, ad 41, ad 71, ad 12, ad 42, ad 13, ad 43, ad 14, ad 44, ad 15, ad 45, ad 16, ad 46, ad 17, ad 47, ad 18, ad 48, ad 19, ad 49, ad 20, ad 50, ad 21, ad 51, ad 72, ad 22, ad 52, ad 23, ad 53, ad 73, ad 24, ad 54, ad 25, ad 55, ad 26, ad 56, ad 27, ad 57, ad 28, ad 58]
theorem rlW_adr (cA : ClassId) (ad : Nat → Nat) (g : Nat → Nat → Int32) (z : Nat → Nat) : (rlW cA ad g z).map Prod.fst = rlW_a ad := rfl
/-! calls on the whole of the cells -/
theorem q_same {A : Nat → Prop} {ws w1 : va_W} (hD : va_D A ws) (h : w1.map Prod.fst = ws.map Prod.fst) : va_D A w1 := by
  have at' : ∀ (k : Nat) (q : Nat × va_E), w1[k]? = some q → ∃ q0, ws[k]? = some q0 ∧ q0.1 = q.1 := by
    intro k q hq
    have e1 : (w1.map Prod.fst)[k]? = some q.1 := by rw [List.getElem?_map, hq]; rfl
    rw [h, List.getElem?_map] at e1
    cases hw : ws[k]? with
    | none => rw [hw] at e1; cases e1
    | some q0 => rw [hw] at e1; exact ⟨q0, rfl, Option.some.inj e1⟩
  refine ⟨fun i j x y hi hj hxy => ?_, fun k q hk => ?_⟩
  · obtain ⟨x0, h1, h2⟩ := at' i x hi
    obtain ⟨y0, h3, h4⟩ := at' j y hj
    exact hD.1 i j x0 y0 h1 h3 (h2.trans (hxy.trans h4.symm))
  · obtain ⟨q0, h1, h2⟩ := at' k q hk
    rw [← h2]
    exact hD.2 k q0 h1
theorem q_freeW {A0 : Nat → Prop} {ws : va_W} {H0 H : Heap} {locs : List Loc} (hD : va_D A0 ws) (hS : va_S A0 H0 H locs) (hA : ∀ q, H0.size ≤ q → A0 q) : ∀ q, va_A ws H.size q → A0 q := by
  intro q h
  rcases h with ⟨k, e, h⟩ | h
  · exact hD.2 k (q, e) h
  · exact hA q (Nat.le_trans hS.1 h)
section QX
variable {p : Program} {l : Launch} {e : Env} {R : Room} {s : State} {m : MethodId} {args : Array Value} {below : List Frame} {meth : Method} {c : Code} {H : Heap} {locs : List Loc} {cells slots : Nat} {Q : State → Prop}
variable {cc : ByteArray} {pc nL : Nat} {ls : Array Slot} {rest : List Value} {D : va_G} {A : Nat → Prop} {a : Nat} {ws w1 pre wc suf ws1 : va_W} {H0 : Heap} {own : String} {cA : ClassId} {lv : List (Nat × Value)} {st : List Value}
theorem q_callIW {y : MethodName} {bytes : ByteArray} {maxL n index ci q0 b : Nat} {ret : Option FieldType} {rm : Room} {As : List Value} {r : Int32} {fs : List Value} {T : u_T} {N : Nat} {C : String}
    (hx : p.tables.exec = Jvm.exec) (hb : c.code = cc) (hml : c.maxLocals = nL) (hown : s.vm.findClass own = some m.cls) (hT : q_Tb s) (hK : va_K D vwCl [(cA, .int)] s) (hP : va_P D vwCl ws H) (hD : va_D A ws) (hS : va_S A H0 H locs) (hA : ∀ q : Nat, H0.size ≤ q → A q)
    (hM : q_CI l y [Cond.code y bytes maxL ret] rm D cA (.ref b :: As) ws r w1) (km : q_okM y bytes maxL ret n) (kl : q_ok (.methodLink own index y)) (hwc : ws[q0]? = some (b, .inr (ci, fs))) (hc : vwCl[ci]? = some (C, T, N)) (hyc : y.cls = C)
    (hadr : w1.map Prod.fst = ws.map Prod.fst) (hl : lv_has ls nL lv) (hlen : As.length = n) (hst : st = As.reverse ++ .ref b :: rest) (hw : (rest.map fun v => v.category).sum ≤ 8)
    (hR : (rm.cells = 0 ∧ rm.slots = 0) ∧ rm.frames + 1 ≤ R.frames ∧ 8 + (maxL + 11) + rm.locals ≤ R.locals) (hf : cells ≤ R.cells ∧ slots ≤ R.slots) (hdg : decode cc pc = .ok (.invokevirtual index, 3))
    (kk : ∀ (H1 : Heap) (locs1 : List Loc), va_P D vwCl w1 H1 → va_D A w1 → va_S A H0 H1 locs1 → W p l e R s m args below meth c H1 locs1 cells slots Q (F0 m (pc + 3) ls (.int r :: rest))) : W p l e R s m args below meth c H locs cells slots Q (F0 m pc ls st) := by
  obtain ⟨k1, k2, k3, k4, k5, k6⟩ := km
  have hF := q_freeW hD hS hA
  refine va_calli (va_runV (As := As) (rest := rest) (Ts := []) ⟨hx, hb, hml, hown, fun _ h => absurd h List.not_mem_nil⟩ (hM H.size) (C := y.cls) ⟨q_cb hT k1 k2 k5 k6 kl hR.1.1 hR.1.2 hR.2, hT.use k3 args, hT.use k4 args⟩ ⟨q_blind, ?_, fun U hU hW => q_pc hT hK hP hD U hU hW⟩ rfl hlen hl.1 hst (lv_room hw) hdg hf) hS (fun q _ h => hF q h) hF (fun r' u t H1 locs1 ht hvm hpost hB hz1 hk1 hS1 => ?_)
  · obtain ⟨cell, g1, g2, g3⟩ := va_recv hK hP hc hwc
    exact ⟨cell, g1, g2, by rw [hyc]; exact g3⟩
  · subst hpost
    exact kk H1 locs1 (ht ▸ hB) (q_same hD hadr) hS1
theorem q_callVW {y : MethodName} {bytes : ByteArray} {maxL n index ci q0 b : Nat} {ret : Option FieldType} {rm : Room} {As : List Value} {fs : List Value} {T : u_T} {N : Nat} {C : String}
    (hx : p.tables.exec = Jvm.exec) (hb : c.code = cc) (hml : c.maxLocals = nL) (hown : s.vm.findClass own = some m.cls) (hT : q_Tb s) (hK : va_K D vwCl [(cA, .int)] s) (hP : va_P D vwCl ws H) (hD : va_D A ws) (hS : va_S A H0 H locs) (hA : ∀ q : Nat, H0.size ≤ q → A q)
    (hM : q_CV l y [Cond.code y bytes maxL ret] rm D cA (.ref b :: As) ws w1) (km : q_okM y bytes maxL ret n) (kl : q_ok (.methodLink own index y)) (hwc : ws[q0]? = some (b, .inr (ci, fs))) (hc : vwCl[ci]? = some (C, T, N)) (hyc : y.cls = C)
    (hadr : w1.map Prod.fst = ws.map Prod.fst) (hl : lv_has ls nL lv) (hlen : As.length = n) (hst : st = As.reverse ++ .ref b :: rest) (hw : (rest.map fun v => v.category).sum ≤ 8)
    (hR : (rm.cells = 0 ∧ rm.slots = 0) ∧ rm.frames + 1 ≤ R.frames ∧ 8 + (maxL + 11) + rm.locals ≤ R.locals) (hf : cells ≤ R.cells ∧ slots ≤ R.slots) (hdg : decode cc pc = .ok (.invokevirtual index, 3))
    (kk : ∀ (H1 : Heap) (locs1 : List Loc), va_P D vwCl w1 H1 → va_D A w1 → va_S A H0 H1 locs1 → W p l e R s m args below meth c H1 locs1 cells slots Q (F0 m (pc + 3) ls rest)) : W p l e R s m args below meth c H locs cells slots Q (F0 m pc ls st) := by
  obtain ⟨k1, k2, k3, k4, k5, k6⟩ := km
  have hF := q_freeW hD hS hA
  refine va_callv (va_runV (As := As) (rest := rest) (Ts := []) ⟨hx, hb, hml, hown, fun _ h => absurd h List.not_mem_nil⟩ (hM H.size) (C := y.cls) ⟨q_cb hT k1 k2 k5 k6 kl hR.1.1 hR.1.2 hR.2, hT.use k3 args, hT.use k4 args⟩ ⟨q_blind, ?_, fun U hU hW => q_pc hT hK hP hD U hU hW⟩ rfl hlen hl.1 hst (lv_room hw) hdg hf) hS (fun q _ h => hF q h) hF (fun u t H1 locs1 ht hvm hpost hB hz1 hk1 hS1 => ?_)
  · obtain ⟨cell, g1, g2, g3⟩ := va_recv hK hP hc hwc
    exact ⟨cell, g1, g2, by rw [hyc]; exact g3⟩
  · exact kk H1 locs1 (ht ▸ hB) (q_same hD hadr) hS1
/-! a stretch of the cells is another object's world -/
theorem q_mid {cl : List vw_C} (hP : va_P D cl (pre ++ (wc ++ suf)) H) : va_P D cl wc H := fun k q hq => hP (pre.length + k) q (by
  have hl : k < wc.length := (List.getElem?_eq_some_iff.mp hq).1
  rw [List.getElem?_append_right (by omega), Nat.add_sub_cancel_left, List.getElem?_append_left hl]
  exact hq)
theorem q_midD (hD : va_D A (pre ++ (wc ++ suf))) : va_D A wc := by
  have at' : ∀ (k : Nat) (q : Nat × va_E), wc[k]? = some q → (pre ++ (wc ++ suf))[pre.length + k]? = some q := fun k q hq => by
    have hl : k < wc.length := (List.getElem?_eq_some_iff.mp hq).1
    rw [List.getElem?_append_right (by omega), Nat.add_sub_cancel_left, List.getElem?_append_left hl]
    exact hq
  exact ⟨fun i j x y hi hj hxy => by have := hD.1 _ _ x y (at' i x hi) (at' j y hj) hxy; omega, fun k q hk => hD.2 _ q (at' k q hk)⟩
theorem q_frameS {cl : List vw_C} {H1 : Heap} (hP : va_P D cl (pre ++ (wc ++ suf)) H) (hD : va_D A (pre ++ (wc ++ suf))) (hadr : w1.map Prod.fst = wc.map Prod.fst)
    (hk : ∀ q : Nat, q < H.size → ¬ va_A wc H.size q → H1[q]? = H[q]?) (hP1 : va_P D cl w1 H1) : va_P D cl (pre ++ (w1 ++ suf)) H1 ∧ va_D A (pre ++ (w1 ++ suf)) := by
  have hlen : w1.length = wc.length := by
    have h2 := congrArg List.length hadr
    simpa using h2
  refine ⟨fun k q hq => ?_, q_same hD (by simp only [List.map_append, hadr])⟩
  by_cases h1 : k < pre.length
  · rw [List.getElem?_append_left h1] at hq
    have h0 : (pre ++ (wc ++ suf))[k]? = some q := by rw [List.getElem?_append_left h1]; exact hq
    refine (hP k q h0).kept (hk q.1 (hP k q h0).lt (fun z => ?_))
    rcases z with ⟨j, e, hj⟩ | z
    · have hl : j < wc.length := (List.getElem?_eq_some_iff.mp hj).1
      have := hD.1 k (pre.length + j) q (q.1, e) h0 (by rw [List.getElem?_append_right (by omega), Nat.add_sub_cancel_left, List.getElem?_append_left hl]; exact hj) rfl
      omega
    · have := (hP k q h0).lt
      omega
  · rw [List.getElem?_append_right (by omega)] at hq
    by_cases h2 : k - pre.length < w1.length
    · rw [List.getElem?_append_left h2] at hq
      exact hP1 _ q hq
    · rw [List.getElem?_append_right (by omega)] at hq
      have h0 : (pre ++ (wc ++ suf))[k]? = some q := by rw [List.getElem?_append_right (by omega), List.getElem?_append_right (by omega), ← hlen]; exact hq
      refine (hP k q h0).kept (hk q.1 (hP k q h0).lt (fun z => ?_))
      rcases z with ⟨j, e, hj⟩ | z
      · have hl : j < wc.length := (List.getElem?_eq_some_iff.mp hj).1
        have := hD.1 k (pre.length + j) q (q.1, e) h0 (by rw [List.getElem?_append_right (by omega), Nat.add_sub_cancel_left, List.getElem?_append_left hl]; exact hj) rfl
        omega
      · have := (hP k q h0).lt
        omega
theorem q_callIS {y : MethodName} {bytes : ByteArray} {maxL n index ci q0 b : Nat} {ret : Option FieldType} {rm : Room} {As : List Value} {r : Int32} {fs : List Value} {T : u_T} {N : Nat} {C : String}
    (hx : p.tables.exec = Jvm.exec) (hb : c.code = cc) (hml : c.maxLocals = nL) (hown : s.vm.findClass own = some m.cls) (hT : q_Tb s) (hK : va_K D vwCl [(cA, .int)] s) (hP : va_P D vwCl ws H) (hD : va_D A ws) (hS : va_S A H0 H locs) (hA : ∀ q : Nat, H0.size ≤ q → A q)
    (hM : q_CI l y [Cond.code y bytes maxL ret] rm D cA (.ref b :: As) wc r w1) (km : q_okM y bytes maxL ret n) (kl : q_ok (.methodLink own index y)) (hwc : wc[q0]? = some (b, .inr (ci, fs))) (hc : vwCl[ci]? = some (C, T, N)) (hyc : y.cls = C)
    (pre suf : va_W) (h1 : ws = pre ++ (wc ++ suf)) (h2 : pre ++ (w1 ++ suf) = ws1) (hadr : w1.map Prod.fst = wc.map Prod.fst) (hl : lv_has ls nL lv) (hlen : As.length = n) (hst : st = As.reverse ++ .ref b :: rest) (hw : (rest.map fun v => v.category).sum ≤ 8)
    (hR : (rm.cells = 0 ∧ rm.slots = 0) ∧ rm.frames + 1 ≤ R.frames ∧ 8 + (maxL + 11) + rm.locals ≤ R.locals) (hf : cells ≤ R.cells ∧ slots ≤ R.slots) (hdg : decode cc pc = .ok (.invokevirtual index, 3))
    (kk : ∀ (H1 : Heap) (locs1 : List Loc), va_P D vwCl ws1 H1 → va_D A ws1 → va_S A H0 H1 locs1 → W p l e R s m args below meth c H1 locs1 cells slots Q (F0 m (pc + 3) ls (.int r :: rest))) : W p l e R s m args below meth c H locs cells slots Q (F0 m pc ls st) := by
  subst h1
  subst h2
  obtain ⟨k1, k2, k3, k4, k5, k6⟩ := km
  have hPc : va_P D vwCl wc H := q_mid hP
  have hDc : va_D A wc := q_midD hD
  have hF := q_freeW hDc hS hA
  refine va_calli (va_runV (As := As) (rest := rest) (Ts := []) ⟨hx, hb, hml, hown, fun _ h => absurd h List.not_mem_nil⟩ (hM H.size) (C := y.cls) ⟨q_cb hT k1 k2 k5 k6 kl hR.1.1 hR.1.2 hR.2, hT.use k3 args, hT.use k4 args⟩ ⟨q_blind, ?_, fun U hU hW => q_pc hT hK hPc hDc U hU hW⟩ rfl hlen hl.1 hst (lv_room hw) hdg hf) hS (fun q _ h => hF q h) hF (fun r' u t H1 locs1 ht hvm hpost hB hz1 hk1 hS1 => ?_)
  · obtain ⟨cell, g1, g2, g3⟩ := va_recv hK hPc hc hwc
    exact ⟨cell, g1, g2, by rw [hyc]; exact g3⟩
  · subst hpost
    obtain ⟨f1, f2⟩ := q_frameS hP hD hadr hk1 (ht ▸ hB)
    exact kk H1 locs1 f1 f2 hS1
theorem q_callVS {y : MethodName} {bytes : ByteArray} {maxL n index ci q0 b : Nat} {ret : Option FieldType} {rm : Room} {As : List Value} {fs : List Value} {T : u_T} {N : Nat} {C : String}
    (hx : p.tables.exec = Jvm.exec) (hb : c.code = cc) (hml : c.maxLocals = nL) (hown : s.vm.findClass own = some m.cls) (hT : q_Tb s) (hK : va_K D vwCl [(cA, .int)] s) (hP : va_P D vwCl ws H) (hD : va_D A ws) (hS : va_S A H0 H locs) (hA : ∀ q : Nat, H0.size ≤ q → A q)
    (hM : q_CV l y [Cond.code y bytes maxL ret] rm D cA (.ref b :: As) wc w1) (km : q_okM y bytes maxL ret n) (kl : q_ok (.methodLink own index y)) (hwc : wc[q0]? = some (b, .inr (ci, fs))) (hc : vwCl[ci]? = some (C, T, N)) (hyc : y.cls = C)
    (pre suf : va_W) (h1 : ws = pre ++ (wc ++ suf)) (h2 : pre ++ (w1 ++ suf) = ws1) (hadr : w1.map Prod.fst = wc.map Prod.fst) (hl : lv_has ls nL lv) (hlen : As.length = n) (hst : st = As.reverse ++ .ref b :: rest) (hw : (rest.map fun v => v.category).sum ≤ 8)
    (hR : (rm.cells = 0 ∧ rm.slots = 0) ∧ rm.frames + 1 ≤ R.frames ∧ 8 + (maxL + 11) + rm.locals ≤ R.locals) (hf : cells ≤ R.cells ∧ slots ≤ R.slots) (hdg : decode cc pc = .ok (.invokevirtual index, 3))
    (kk : ∀ (H1 : Heap) (locs1 : List Loc), va_P D vwCl ws1 H1 → va_D A ws1 → va_S A H0 H1 locs1 → W p l e R s m args below meth c H1 locs1 cells slots Q (F0 m (pc + 3) ls rest)) : W p l e R s m args below meth c H locs cells slots Q (F0 m pc ls st) := by
  subst h1
  subst h2
  obtain ⟨k1, k2, k3, k4, k5, k6⟩ := km
  have hPc : va_P D vwCl wc H := q_mid hP
  have hDc : va_D A wc := q_midD hD
  have hF := q_freeW hDc hS hA
  refine va_callv (va_runV (As := As) (rest := rest) (Ts := []) ⟨hx, hb, hml, hown, fun _ h => absurd h List.not_mem_nil⟩ (hM H.size) (C := y.cls) ⟨q_cb hT k1 k2 k5 k6 kl hR.1.1 hR.1.2 hR.2, hT.use k3 args, hT.use k4 args⟩ ⟨q_blind, ?_, fun U hU hW => q_pc hT hK hPc hDc U hU hW⟩ rfl hlen hl.1 hst (lv_room hw) hdg hf) hS (fun q _ h => hF q h) hF (fun u t H1 locs1 ht hvm hpost hB hz1 hk1 hS1 => ?_)
  · obtain ⟨cell, g1, g2, g3⟩ := va_recv hK hPc hc hwc
    exact ⟨cell, g1, g2, by rw [hyc]; exact g3⟩
  · obtain ⟨f1, f2⟩ := q_frameS hP hD hadr hk1 (ht ▸ hB)
    exact kk H1 locs1 f1 f2 hS1
end QX
theorem rl_y {cA : ClassId} {ad : Nat → Nat} {g g' : Nat → Nat → Int32} {z z' : Nat → Nat} (h1 : rl_a cA ad g' z' = rl_a cA ad g z) (h2 : psW cA ad g' z' = psW cA ad g z) (h3 : gpW cA ad g' z' = gpW cA ad g z) : rl_a cA ad g z ++ (yrW cA ad g' z' ++ (psW cA ad g z ++ gpW cA ad g z)) = rlW cA ad g' z' := by rw [← h1, ← h2, ← h3]
theorem rl_p {cA : ClassId} {ad : Nat → Nat} {g g' : Nat → Nat → Int32} {z z' : Nat → Nat} (h1 : rl_a cA ad g' z' = rl_a cA ad g z) (h2 : yrW cA ad g' z' = yrW cA ad g z) (h3 : gpW cA ad g' z' = gpW cA ad g z) : (rl_a cA ad g z ++ yrW cA ad g z) ++ (psW cA ad g' z' ++ gpW cA ad g z) = rlW cA ad g' z' := by rw [← h1, ← h2, ← h3, List.append_assoc]
theorem rl_g {cA : ClassId} {ad : Nat → Nat} {g g' : Nat → Nat → Int32} {z z' : Nat → Nat} (h1 : rl_a cA ad g' z' = rl_a cA ad g z) (h2 : yrW cA ad g' z' = yrW cA ad g z) (h3 : psW cA ad g' z' = psW cA ad g z) : ((rl_a cA ad g z ++ yrW cA ad g z) ++ psW cA ad g z) ++ (gpW cA ad g' z' ++ []) = rlW cA ad g' z' := by rw [← h1, ← h2, ← h3, List.append_nil, List.append_assoc, List.append_assoc]
theorem rl_g0 {cA : ClassId} {ad : Nat → Nat} {g : Nat → Nat → Int32} {z : Nat → Nat} : rlW cA ad g z = ((rl_a cA ad g z ++ yrW cA ad g z) ++ psW cA ad g z) ++ (gpW cA ad g z ++ []) := by rw [List.append_nil, List.append_assoc, List.append_assoc]
