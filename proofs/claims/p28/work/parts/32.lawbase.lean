/-! the law's own methods: words, what their starts give, contracts, rows -/
def q_okW (y : MethodName) (bytes : ByteArray) (maxL : Nat) (ret : Option FieldType) (hh : List (Nat × Nat × Nat × Nat)) (n : Nat) : Prop :=
  q_ok (.codeWith y bytes maxL ret hh) ∧ q_ok (.initialized y.cls) ∧ q_ok (.static y) ∧ (y.cls ≠ "java/lang/invoke/MethodHandle" ∧ y.cls ≠ "java/lang/invoke/VarHandle") ∧ (parseMethodDescriptor y.desc).map (fun d => d.parameters.length) = some n
abbrev hh_act : List (Nat × Nat × Nat × Nat) := [(0, 419, 420, 88), (0, 419, 425, 91), (0, 419, 430, 94)]
set_option maxRecDepth 1000000 in
theorem kb_L_act : lw_tbl[557]? = some (.codeWith yL_act cL_act 7 (some .int) hh_act) := by rfl
theorem k_L_act : q_okW yL_act cL_act 7 (some .int) hh_act 6 := ⟨⟨List.mem_of_getElem? kb_L_act, by decide +kernel⟩, ki_OfficeholdersRollLaw, ⟨List.mem_of_getElem? (i := 556) (by decide +kernel), by decide +kernel⟩, ⟨by decide +kernel, by decide +kernel⟩, by decide +kernel⟩
theorem q_cast_iob : Cond.castable "java/lang/IndexOutOfBoundsException" "java/lang/IndexOutOfBoundsException" ∈ lw_tbl := List.mem_of_getElem? (i := 241) (by decide +kernel)
theorem q_cast_iae : Cond.castable "java/lang/IllegalArgumentException" "java/lang/IllegalArgumentException" ∈ lw_tbl := List.mem_of_getElem? (i := 312) (by decide +kernel)
theorem q_cast_ise : Cond.castable "java/lang/IllegalStateException" "java/lang/IllegalStateException" ∈ lw_tbl := List.mem_of_getElem? (i := 567) (by decide +kernel)
def q_Nc (U : State) : Prop := va_Nc "java/lang/IllegalArgumentException" "java/lang/IndexOutOfBoundsException" U ∧ va_Nc "java/lang/IllegalStateException" "java/lang/IndexOutOfBoundsException" U ∧ va_Nc "java/lang/IllegalStateException" "java/lang/IllegalArgumentException" U
theorem q_Nc.moved {u U : State} (hvm : u.vm.Alike U.vm) (h : q_Nc u) : q_Nc U := ⟨h.1.moved hvm, h.2.1.moved hvm, h.2.2.moved hvm⟩
def q_InL (D : va_G) (cA : ClassId) (ws : va_W) (sz : Nat) (U : State) : Prop := q_In D cA ws sz U ∧ (q_Xt U ∧ q_Nc U) ∧ q_Zz (va_A ws sz) U U.heap
theorem q_blindL {D : va_G} {cA : ClassId} {ws : va_W} {sz : Nat} {av : List Value} : FrameBlind (va_Pc av (q_InL D cA ws sz)) := fun a U g mk q => by
  obtain ⟨q0, q1, ⟨qX, qN⟩, qZ⟩ := q
  exact ⟨q0, (q_blind a U g mk ⟨q0, q1⟩).2, ⟨qX.moved (State.WarmedH.refl U), q_Nc.moved (u := U) (U := U.calling g mk a) (Vm.Alike.refl U.vm) qN⟩, ⟨vx_Zq.moved (u := U) (U := U.calling g mk a) (Vm.Alike.refl U.vm) qZ.1, vx_Zq.moved (u := U) (U := U.calling g mk a) (Vm.Alike.refl U.vm) qZ.2⟩⟩
/-- an answer r, cells of which B holds behind; what may be new stands in the room -/
def q_CL (l : Launch) (y : MethodName) (cw : List Cond) (rm : Room) (D : va_G) (cA : ClassId) (av : List Value) (w : va_W) (r : Int32) (B : va_W → Prop) : Prop :=
  ∀ sz : Nat, Met l y cw rm (va_Pc av (q_InL D cA w sz)) (va_Qi (fun (r' : Int32) (w' : va_W) => r' = r ∧ B w') (fun w' t => va_P D vwCl w' t.heap) (va_A w sz)) rm.cells rm.slots (va_A w sz)
def q_GL (D : va_G) (r : Int32) (B : va_W → Prop) (A : Nat → Prop) (below : List Frame) (args : Array Value) (s : State) (mc ms : Nat) : State → Prop := MQ below (va_Qi (fun (r' : Int32) (w' : va_W) => r' = r ∧ B w') (fun w' t => va_P D vwCl w' t.heap) A) args s mc ms A
theorem q_startA {l : Launch} {y : MethodName} {cc : ByteArray} {maxL : Nat} {hh : List (Nat × Nat × Nat × Nat)} {rm : Room} {D : va_G} {cA : ClassId} {av : List Value} {w : va_W} {B : va_W → Prop} {r : Int32} (own : String) (hy : plainName y.cls = true) (ho : y.cls = own) (hn : (lg_sl av).length ≤ maxL)
    (body : ∀ (p : Program) (e : Env) (s : State) (m : MethodId) (below : List Frame) (meth : Method) (c : Code) (A : Nat → Prop) (args : Array Value) (H : Heap) (locs : List Loc) (ls : Array Slot), p.tables.exec = Jvm.exec → c.code = cc → meth.sig.returnType = some .int → c.maxLocals = maxL → s.vm.findClass own = some m.cls → q_Tb s → meth.locks = false →
      va_P D vwCl w H → va_K D vwCl [(cA, .int)] s → va_D A w → (∀ q : Nat, s.heap.size ≤ q → A q) → va_S A s.heap H locs → lv_has ls maxL (lv_args 0 av) → c.exceptionTable.toList = tableOf hh → q_Xt s → q_Nc s → q_Zz A s s.heap →
      W p l e rm s m args below meth c H locs 0 0 (q_GL D r B A below args s rm.cells rm.slots) (F0 m 0 ls [])) : q_CL l y [Cond.codeWith y cc maxL (some .int) hh] rm D cA av w r B := by
  intro sz
  refine va_MetW (cc := cc) (maxL := maxL) (ret := some .int) (hh := hh) hy rfl ?_
  intro p e s m args below meth c s₁ B' hml hv
  obtain ⟨rfl, ⟨hsz, hP, hK, hD0, hT⟩, ⟨hX, hN⟩, hZ⟩ := hv
  subst hsz
  have hl := lv_entry av (n := maxL) hn
  have htb := vx_table (x := y) B' (atoms_spec (ws := [Cond.codeWith y cc maxL (some .int) hh]) B'.pre _ List.mem_cons_self)
  rw [lg_entry_eq]
  exact body p e s m below meth c _ _ _ [] _ B'.exec B'.bytes B'.returns hml (ho ▸ findClass_of_methodNamed B'.named) hT B'.notSynchronized hP hK hD0.self (fun q h => Or.inr h) va_S.rf hl htb hX hN hZ
theorem q_startP {l : Launch} {y : MethodName} {cc : ByteArray} {maxL : Nat} {ret : Option FieldType} {rm : Room} {D : va_G} {cA : ClassId} {av : List Value} {w : va_W} {B : va_W → Prop} {r : Int32} (own : String) (hy : plainName y.cls = true) (ho : y.cls = own) (hn : (lg_sl av).length ≤ maxL)
    (body : ∀ (p : Program) (e : Env) (s : State) (m : MethodId) (below : List Frame) (meth : Method) (c : Code) (A : Nat → Prop) (args : Array Value) (H : Heap) (locs : List Loc) (ls : Array Slot), p.tables.exec = Jvm.exec → c.code = cc → meth.sig.returnType = ret → c.maxLocals = maxL → s.vm.findClass own = some m.cls → q_Tb s → meth.locks = false →
      va_P D vwCl w H → va_K D vwCl [(cA, .int)] s → va_D A w → (∀ q : Nat, s.heap.size ≤ q → A q) → va_S A s.heap H locs → lv_has ls maxL (lv_args 0 av) → q_Xt s → q_Nc s → q_Zz A s s.heap →
      W p l e rm s m args below meth c H locs 0 0 (q_GL D r B A below args s rm.cells rm.slots) (F0 m 0 ls [])) : q_CL l y [Cond.code y cc maxL ret] rm D cA av w r B := by
  intro sz
  refine Met.ofW (cc := cc) (maxL := maxL) (ret := ret) hy rfl ?_
  intro p e s m args below meth c s₁ B' hml hv
  obtain ⟨rfl, ⟨hsz, hP, hK, hD0, hT⟩, ⟨hX, hN⟩, hZ⟩ := hv
  subst hsz
  have hl := lv_entry av (n := maxL) hn
  rw [lg_entry_eq]
  exact body p e s m below meth c _ _ _ [] _ B'.exec B'.bytes B'.returns hml (ho ▸ findClass_of_methodNamed B'.named) hT B'.notSynchronized hP hK hD0.self (fun q h => Or.inr h) va_S.rf hl hX hN hZ
/-- the worlds of one roll, by what holds of its state -/
def q_BG (cA : ClassId) (ad : Nat → Nat) (P : (Nat → Nat → Int32) → (Nat → Nat) → Prop) (w : va_W) : Prop := ∃ (g : Nat → Nat → Int32) (z : Nat → Nat), w = rlW cA ad g z ∧ P g z
theorem q_BG_adr {cA : ClassId} {ad : Nat → Nat} {P : (Nat → Nat → Int32) → (Nat → Nat) → Prop} {g : Nat → Nat → Int32} {z : Nat → Nat} : ∀ w, q_BG cA ad P w → w.map Prod.fst = (rlW cA ad g z).map Prod.fst := by
  rintro w ⟨g2, z2, rfl, -⟩
  exact (rlW_adr _ _ _ _).trans (rlW_adr _ _ _ _).symm
theorem vp_cell_ext {cA : ClassId} {n : Nat} {f f' : Nat → Int32} (h : ∀ k, k < n → f k = f' k) : vp_cell cA (n, .inl f) = vp_cell cA (n, .inl f') := by
  rw [vp_cell_i, vp_cell_i]
  unfold arrV
  have : (fun j : Fin n => Value.int (f j.val)) = fun j : Fin n => Value.int (f' j.val) := funext fun j => by rw [h j.val j.isLt]
  rw [this]
/-- the lengths of the arrays -/
def lenA (j : Nat) : Nat := match j with
  | 5 => 8 | 7 => 40 | 8 => 8 | 14 => 40 | 15 => 40 | 16 => 40 | 21 => 256 | 23 => 40 | 24 => 6 | 25 => 36 | 26 => 64 | 27 => 64 | 28 => 6 | _ => 16
section QLL
variable {p : Program} {l : Launch} {e : Env} {R : Room} {s : State} {m : MethodId} {args : Array Value} {below : List Frame} {meth : Method} {c : Code} {H : Heap} {locs : List Loc} {cells slots : Nat} {Q : State → Prop}
variable {cc : ByteArray} {pc nL : Nat} {ls : Array Slot} {rest : List Value} {D : va_G} {A : Nat → Prop} {a : Nat} {ws w1 wc ws1 w' : va_W} {H0 : Heap} {own : String} {cA : ClassId} {lv : List (Nat × Value)} {st : List Value} {E : String} {B : va_W → Prop}
theorem q_lret {r v : Int32} {mc ms : Nat} (hx : p.tables.exec = Jvm.exec) (hb : c.code = cc) (hr : meth.sig.returnType = some .int) (hlk : meth.locks = false) (hv : v = r) (hB : B w') (hP : va_P D vwCl w' H) (hS : va_S A s.heap H locs) (h1 : cells ≤ mc) (h2 : slots ≤ ms) (hdg : decode cc pc = .ok (.ireturn, 1)) :
    W p l e R s m args below meth c H locs cells slots (q_GL D r B A below args s mc ms) (F0 m pc ls [.int v]) :=
  W.widen h1 h2 (W.iret hx hb hr (fun t ht hW => ⟨⟨v, w', rfl, ⟨hv, hB⟩, by show va_P D vwCl w' t.heap; rw [ht]; exact hP⟩, hS.F ht⟩) hS.2.2 hdg hlk)
theorem q_lzret {r v : Int32} {mc ms : Nat} (hx : p.tables.exec = Jvm.exec) (hb : c.code = cc) (hr : meth.sig.returnType = some .boolean) (hlk : meth.locks = false) (hz : v = nI 0 ∨ v = nI 1) (hv : v = r) (hB : B w') (hP : va_P D vwCl w' H) (hS : va_S A s.heap H locs) (h1 : cells ≤ mc) (h2 : slots ≤ ms) (hdg : decode cc pc = .ok (.ireturn, 1)) :
    W p l e R s m args below meth c H locs cells slots (q_GL D r B A below args s mc ms) (F0 m pc ls [.int v]) :=
  W.widen h1 h2 (W.zret hx hb hr (q_nar hz) (fun t ht hW => ⟨⟨v, w', rfl, ⟨hv, hB⟩, by show va_P D vwCl w' t.heap; rw [ht]; exact hP⟩, hS.F ht⟩) hS.2.2 hdg hlk)
/-- a call of a method that throws, caught here by the row x of the table -/
theorem q_callXC {y : MethodName} {bytes : ByteArray} {maxL n index ci q0 b : Nat} {ret : Option FieldType} {rm : Room} {As : List Value} {fs : List Value} {T : u_T} {N : Nat} {C name : String}
    (hx : p.tables.exec = Jvm.exec) (hb : c.code = cc) (hml : c.maxLocals = nL) (hown : s.vm.findClass own = some m.cls) (hT : q_Tb s) (hK : va_K D vwCl [(cA, .int)] s) (hP : va_P D vwCl ws H) (hD : va_D A ws) (hS : va_S A s.heap H locs) (hA : ∀ q : Nat, s.heap.size ≤ q → A q) (hX : q_Xt s) (hZ : q_Zz A s s.heap)
    (hM : q_CX l y [Cond.code y bytes maxL ret] rm D cA (.ref b :: As) ws E w1) (km : q_okM y bytes maxL ret n) (kl : q_ok (.methodLink own index y)) (hwc : ws[q0]? = some (b, .inr (ci, fs))) (hc : vwCl[ci]? = some (C, T, N)) (hyc : y.cls = C)
    (hadr : w1.map Prod.fst = ws.map Prod.fst) (hl : lv_has ls nL lv) (hlen : As.length = n) (hst : st = As.reverse ++ .ref b :: rest) (hw : (rest.map fun v => v.category).sum ≤ 8)
    (hR : (rm.cells = 1 ∧ rm.slots = 6) ∧ rm.frames + 1 ≤ R.frames ∧ 8 + (maxL + 11) + rm.locals ≤ R.locals) (hf : cells + 1 ≤ R.cells ∧ slots + 6 ≤ R.slots) (hdg : decode cc pc = .ok (.invokevirtual index, 3))
    (tp : List ExceptionTableEntry) (x : ExceptionTableEntry) (ts : List ExceptionTableEntry) (htb : c.exceptionTable.toList = tp ++ x :: ts) (hpass : ∀ z ∈ tp, covers z pc = false ∨ (z.catchType ≠ 0 ∧ ∃ nm : String, (Cond.classLink own z.catchType nm).before args s = true ∧ va_Nc E nm s))
    (hcov : covers x pc = true) (hct : x.catchType ≠ 0) (hlink : q_ok (.classLink own x.catchType name)) (hcast : Cond.castable E name ∈ lw_tbl)
    (kk : ∀ (q9 : Nat) (H1 : Heap) (locs1 : List Loc), va_P D vwCl w1 H1 → va_D A w1 → va_S A s.heap H1 locs1 → W p l e R s m args below meth c H1 locs1 (cells + 1) (slots + 6) Q (F0 m x.handlerPc ls [.ref q9])) : W p l e R s m args below meth c H locs cells slots Q (F0 m pc ls st) := by
  obtain ⟨k1, k2, k3, k4, k5, k6⟩ := km
  have hF := q_freeW hD hS hA
  refine vx_callv (vx_runV (As := As) (rest := rest) (Ts := []) ⟨hx, hb, hml, hown, fun _ h => absurd h List.not_mem_nil⟩ (hM H.size) (C := y.cls) ⟨q_cb hT k1 k2 k5 k6 kl hR.1.1 hR.1.2 hR.2, hT.use k3 args, hT.use k4 args⟩ ⟨q_blindX, ?_, fun U hU hW => q_pcX hT hX hZ hS hK hP hD hF U hU hW⟩ rfl hlen hl.1 hst (lv_room hw) hdg hf) hS (fun q _ h => hF q h) hF (fun q _ h => hF q h) (fun E' ce q9 u t H1 locs1 ht hvm hpx hB hz1 hk1 hS1 hce hcv hcl => ?_) (fun u t H1 locs1 ht hvm hpost hB hz1 hk1 hS1 => absurd hpost id)
  · obtain ⟨cell, g1, g2, g3⟩ := va_recv hK hP hc hwc
    exact ⟨cell, g1, g2, by rw [hyc]; exact g3⟩
  · obtain ⟨rfl, hB2⟩ := hB
    exact vx_catch hown tp x ts htb hpass hcov hct (hT.use hlink args) (va_Nw.use rfl (hX.1 _ hcast rfl)) hce hcv hcl (kk q9 H1 locs1 (ht ▸ hB2) (q_same hD hadr) hS1)
theorem q_pcL {av : List Value} {w : va_W} {B' : Nat → Prop} (hT : q_Tb s) (hX : q_Xt s) (hN : q_Nc s) (hZ : q_Zz A s s.heap) (hS : va_S A s.heap H locs) (hKc : va_K D vwCl [(cA, .int)] s) (hPc : va_P D vwCl w H) (hDc : va_D B' w) (hF : ∀ q, va_A w H.size q → A q) (U : State) (hU : U.heap = H) (hW : s.WarmedH U.vm) : va_Pc av (q_InL D cA w H.size) av.toArray U := by
  refine ⟨rfl, (q_pc (av := av) hT hKc hPc hDc U hU hW).2, ⟨hX.moved hW, hN.moved hW.alike⟩, ?_⟩
  rw [hU]
  exact hZ.to hS hF hW.alike
/-- a call of act, over all the cells of here -/
theorem q_callA {y : MethodName} {bytes : ByteArray} {maxL n index c2 s2 : Nat} {hh : List (Nat × Nat × Nat × Nat)} {rm : Room} {As : List Value} {r : Int32}
    (hx : p.tables.exec = Jvm.exec) (hb : c.code = cc) (hml : c.maxLocals = nL) (hown : s.vm.findClass own = some m.cls) (hT : q_Tb s) (hK : va_K D vwCl [(cA, .int)] s) (hP : va_P D vwCl ws H) (hD : va_D A ws) (hS : va_S A s.heap H locs) (hA : ∀ q : Nat, s.heap.size ≤ q → A q) (hX : q_Xt s) (hN : q_Nc s) (hZ : q_Zz A s s.heap)
    (hM : q_CL l y [Cond.codeWith y bytes maxL (some .int) hh] rm D cA As ws r B) (km : q_okW y bytes maxL (some .int) hh n) (kl : q_ok (.methodLink own index y))
    (hadr : ∀ w, B w → w.map Prod.fst = ws.map Prod.fst) (hl : lv_has ls nL lv) (hlen : As.length = n) (hst : st = As.reverse ++ rest) (hw : (rest.map fun v => v.category).sum ≤ 8)
    (hR : rm.frames + 1 ≤ R.frames ∧ 8 + (maxL + 11) + rm.locals ≤ R.locals) (hc2 : cells + rm.cells ≤ c2 ∧ slots + rm.slots ≤ s2) (hf : c2 ≤ R.cells ∧ s2 ≤ R.slots) (hdg : decode cc pc = .ok (.invokestatic index, 3))
    (kk : ∀ (w : va_W) (H1 : Heap) (locs1 : List Loc), B w → va_P D vwCl w H1 → va_D A w → va_S A s.heap H1 locs1 → W p l e R s m args below meth c H1 locs1 c2 s2 Q (F0 m (pc + 3) ls (.int r :: rest))) : W p l e R s m args below meth c H locs cells slots Q (F0 m pc ls st) := by
  obtain ⟨k1, k2, k3, k4, k5⟩ := km
  have hF := q_freeW hD hS hA
  refine va_calli (vx_runSW (As := As) (rest := rest) (Ts := []) ⟨hx, hb, hml, hown, fun _ h => absurd h List.not_mem_nil⟩ (hM H.size) ⟨⟨rfl, rfl, hR.1, hR.2, fun w hw a' U hW => by rw [List.mem_singleton.mp hw]; exact (hT.moved hW).use k1 a', List.mem_cons_self⟩, hT.use k1 args, hT.use k2 args, k4, fun sig h => (by rw [h] at k5; exact (Option.some.inj k5).symm), hT.use kl args, hT.use k3 args⟩ ⟨q_blindL, fun U hU hW => q_pcL hT hX hN hZ hS hK hP hD hF U hU hW⟩ rfl hlen hl.1 hst (lv_room hw) hdg ⟨Nat.le_trans hc2.1 hf.1, Nat.le_trans hc2.2 hf.2⟩) hS (fun q _ h => hF q h) hF (fun r' w t H1 locs1 ht hvm hpost hB hz1 hk1 hS1 => ?_)
  obtain ⟨rfl, hpB⟩ := hpost
  exact W.widen hc2.1 hc2.2 (kk w H1 locs1 hpB (ht ▸ hB) (q_same hD (hadr w hpB)) hS1)
/-- a call of another method of the law, over all the cells of here -/
theorem q_callP {y : MethodName} {bytes : ByteArray} {maxL n index c2 s2 : Nat} {ret : Option FieldType} {rm : Room} {As : List Value} {r : Int32}
    (hx : p.tables.exec = Jvm.exec) (hb : c.code = cc) (hml : c.maxLocals = nL) (hown : s.vm.findClass own = some m.cls) (hT : q_Tb s) (hK : va_K D vwCl [(cA, .int)] s) (hP : va_P D vwCl ws H) (hD : va_D A ws) (hS : va_S A s.heap H locs) (hA : ∀ q : Nat, s.heap.size ≤ q → A q) (hX : q_Xt s) (hN : q_Nc s) (hZ : q_Zz A s s.heap)
    (hM : q_CL l y [Cond.code y bytes maxL ret] rm D cA As ws r B) (km : q_okS y bytes maxL ret n) (kl : q_ok (.methodLink own index y))
    (hadr : ∀ w, B w → w.map Prod.fst = ws.map Prod.fst) (hl : lv_has ls nL lv) (hlen : As.length = n) (hst : st = As.reverse ++ rest) (hw : (rest.map fun v => v.category).sum ≤ 8)
    (hR : rm.frames + 1 ≤ R.frames ∧ 8 + (maxL + 11) + rm.locals ≤ R.locals) (hc2 : cells + rm.cells ≤ c2 ∧ slots + rm.slots ≤ s2) (hf : c2 ≤ R.cells ∧ s2 ≤ R.slots) (hdg : decode cc pc = .ok (.invokestatic index, 3))
    (kk : ∀ (w : va_W) (H1 : Heap) (locs1 : List Loc), B w → va_P D vwCl w H1 → va_D A w → va_S A s.heap H1 locs1 → W p l e R s m args below meth c H1 locs1 c2 s2 Q (F0 m (pc + 3) ls (.int r :: rest))) : W p l e R s m args below meth c H locs cells slots Q (F0 m pc ls st) := by
  obtain ⟨k1, k2, k3, k5, k6⟩ := km
  have hF := q_freeW hD hS hA
  refine va_calli (va_runS (As := As) (rest := rest) (Ts := []) ⟨hx, hb, hml, hown, fun _ h => absurd h List.not_mem_nil⟩ (hM H.size) ⟨q_cb hT k1 k2 k5 k6 kl rfl rfl hR, hT.use k3 args⟩ ⟨q_blindL, fun U hU hW => q_pcL hT hX hN hZ hS hK hP hD hF U hU hW⟩ rfl hlen hl.1 hst (lv_room hw) hdg ⟨Nat.le_trans hc2.1 hf.1, Nat.le_trans hc2.2 hf.2⟩) hS (fun q _ h => hF q h) hF (fun r' w t H1 locs1 ht hvm hpost hB hz1 hk1 hS1 => ?_)
  obtain ⟨rfl, hpB⟩ := hpost
  exact W.widen hc2.1 hc2.2 (kk w H1 locs1 hpB (ht ▸ hB) (q_same hD (hadr w hpB)) hS1)
/-- a call of another method of the law that sees no cells -/
theorem q_callE {y : MethodName} {bytes : ByteArray} {maxL n index c2 s2 : Nat} {ret : Option FieldType} {rm : Room} {As : List Value} {r : Int32}
    (hx : p.tables.exec = Jvm.exec) (hb : c.code = cc) (hml : c.maxLocals = nL) (hown : s.vm.findClass own = some m.cls) (hT : q_Tb s) (hK : va_K D vwCl [(cA, .int)] s) (hP : va_P D vwCl ws H) (hD : va_D A ws) (hS : va_S A s.heap H locs) (hA : ∀ q : Nat, s.heap.size ≤ q → A q) (hX : q_Xt s) (hN : q_Nc s) (hZ : q_Zz A s s.heap)
    (hM : q_CL l y [Cond.code y bytes maxL ret] rm D cA As [] r B) (km : q_okS y bytes maxL ret n) (kl : q_ok (.methodLink own index y))
    (hl : lv_has ls nL lv) (hlen : As.length = n) (hst : st = As.reverse ++ rest) (hw : (rest.map fun v => v.category).sum ≤ 8)
    (hR : rm.frames + 1 ≤ R.frames ∧ 8 + (maxL + 11) + rm.locals ≤ R.locals) (hc2 : cells + rm.cells ≤ c2 ∧ slots + rm.slots ≤ s2) (hf : c2 ≤ R.cells ∧ s2 ≤ R.slots) (hdg : decode cc pc = .ok (.invokestatic index, 3))
    (kk : ∀ (H1 : Heap) (locs1 : List Loc), va_P D vwCl ws H1 → va_D A ws → va_S A s.heap H1 locs1 → W p l e R s m args below meth c H1 locs1 c2 s2 Q (F0 m (pc + 3) ls (.int r :: rest))) : W p l e R s m args below meth c H locs cells slots Q (F0 m pc ls st) := by
  obtain ⟨k1, k2, k3, k5, k6⟩ := km
  have hPc : va_P D vwCl [] H := fun k q h => by simp at h
  have hDc : va_D A [] := ⟨fun i j p q h => by simp at h, fun k q h => by simp at h⟩
  have hF : ∀ q, va_A [] H.size q → A q := va_free (wc := []) hD hS hA [] rfl
  refine va_calli (va_runS (As := As) (rest := rest) (Ts := []) ⟨hx, hb, hml, hown, fun _ h => absurd h List.not_mem_nil⟩ (hM H.size) ⟨q_cb hT k1 k2 k5 k6 kl rfl rfl hR, hT.use k3 args⟩ ⟨q_blindL, fun U hU hW => q_pcL hT hX hN hZ hS hK hPc hDc hF U hU hW⟩ rfl hlen hl.1 hst (lv_room hw) hdg ⟨Nat.le_trans hc2.1 hf.1, Nat.le_trans hc2.2 hf.2⟩) hS (fun q _ h => hF q h) hF (fun r' w t H1 locs1 ht hvm hpost hB hz1 hk1 hS1 => ?_)
  obtain ⟨rfl, -⟩ := hpost
  obtain ⟨f1, f2⟩ := q_frame [] hP hD (wc := []) (w1 := []) rfl rfl hk1 (fun k q h => by simp at h)
  exact W.widen hc2.1 hc2.2 (kk H1 locs1 f1 f2 hS1)
end QLL
