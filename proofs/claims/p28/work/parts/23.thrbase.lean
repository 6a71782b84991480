/-! methods that throw: what their starts give besides, their contracts, the rows of a throw and of a call that throws -/
def q_ok2 (w : Cond) : Bool := match w with
  | .castable _ _ => true
  | .declares _ => true
  | .methodLinkNest _ _ _ _ => true
  | _ => false
def q_Tx (U : State) : Prop := ∀ w : Cond, w ∈ lw_tbl → q_ok2 w = true → va_Nw w U
theorem q_Tx.moved {s U : State} (h : q_Tx s) (hW : s.WarmedH U.vm) : q_Tx U := by
  intro w hw h2
  have h1 := h w hw h2
  match w, h2, h1 with
  | .castable _ _, _, h1 => exact va_Nw.warmC hW h1
  | .declares _, _, h1 => exact va_Nw.warmD hW h1
  | .methodLinkNest _ _ _ _, _, h1 => exact va_Nw.warmM hW h1
def q_strs : List (Nat × String) := [(219, "there is no such post"), (226, "an argument is out of its range"), (93, "there are 16 mentions"), (235, "there are 40 persons"), (223, "both are the same"), (212, "there is no such mention"), (122, "ahead was told 40 times"), (237, "there would be no dating"), (162, "the two cannot be joined"), (173, "no other mention belongs to its person"), (217, "there is no such person"), (183, "the place is below 0"), (228, "there are not all of these mentions")]
def q_Str (U : State) : Prop := ∀ q : Nat × String, q ∈ q_strs → ∃ sa, vk_R RX5 q.1 q.2 sa U
theorem q_Str.moved {s U : State} (h : q_Str s) (hW : s.WarmedH U.vm) : q_Str U := fun q hq => by
  obtain ⟨sa, h1⟩ := h q hq
  exact ⟨sa, vk_R.warm hW h1⟩
def q_Zz (A : Nat → Prop) (U : State) (H : Heap) : Prop := vx_Zq Bundle.tN "UNASSIGNED_STACK" Bundle.steD A U H ∧ vx_Zq Bundle.tN "SUPPRESSED_SENTINEL" Bundle.listD A U H
theorem q_Zz.to {A B : Nat → Prop} {s U : State} {H : Heap} {locs : List Loc} (h : q_Zz A s s.heap) (hS : va_S A s.heap H locs) (hAB : ∀ q, B q → A q) (hvm : s.vm.Alike U.vm) : q_Zz B U H :=
  ⟨vx_Zq.moved hvm ((h.1.kept hS.2.1).narrow hAB), vx_Zq.moved hvm ((h.2.kept hS.2.1).narrow hAB)⟩
def q_Xt (U : State) : Prop := q_Tx U ∧ q_Str U
theorem q_Xt.moved {s U : State} (h : q_Xt s) (hW : s.WarmedH U.vm) : q_Xt U := ⟨h.1.moved hW, h.2.moved hW⟩
def q_InX (D : va_G) (cA : ClassId) (ws : va_W) (sz : Nat) (U : State) : Prop := q_In D cA ws sz U ∧ q_Xt U ∧ q_Zz (va_A ws sz) U U.heap
theorem q_blindX {D : va_G} {cA : ClassId} {ws : va_W} {sz : Nat} {av : List Value} : FrameBlind (va_Pc av (q_InX D cA ws sz)) := fun a U g mk q => by
  obtain ⟨q0, q1, qX, qZ⟩ := q
  exact ⟨q0, (q_blind a U g mk ⟨q0, q1⟩).2, qX.moved (State.WarmedH.refl U), ⟨vx_Zq.moved (u := U) (U := U.calling g mk a) (Vm.Alike.refl U.vm) qZ.1, vx_Zq.moved (u := U) (U := U.calling g mk a) (Vm.Alike.refl U.vm) qZ.2⟩⟩
/-- it throws E; its cells are w' behind -/
def q_XC (D : va_G) (E : String) (w' : va_W) (A : Nat → Prop) : String → State → State → Prop := vx_X (fun (_ : Unit) => True) (fun E' _ t => E' = E ∧ va_P D vwCl w' t.heap) A
def q_XQ (A : Nat → Prop) : Array Value → State → Outcome → State → Prop := va_Qv (fun (_ : Unit) => False) (fun _ _ => True) A
def q_CX (l : Launch) (y : MethodName) (cw : List Cond) (rm : Room) (D : va_G) (cA : ClassId) (av : List Value) (w : va_W) (E : String) (w' : va_W) : Prop :=
  ∀ sz : Nat, vx_Met l y cw rm (va_Pc av (q_InX D cA w sz)) (q_XQ (va_A w sz)) (q_XC D E w' (va_A w sz)) 1 6 (va_A w sz)
def q_GX (D : va_G) (E : String) (w' : va_W) (A : Nat → Prop) (below : List Frame) (args : Array Value) (s : State) : State → Prop := vx_MQ below (q_XQ A) (q_XC D E w' A) args s 1 6 A
theorem q_startX {l : Launch} {y : MethodName} {cc : ByteArray} {maxL : Nat} {ret : Option FieldType} {rm : Room} {D : va_G} {cA : ClassId} {av : List Value} {w w' : va_W} {E : String} (own : String) (hy : plainName y.cls = true) (ho : y.cls = own) (hn : (lg_sl av).length ≤ maxL)
    (body : ∀ (p : Program) (e : Env) (s : State) (m : MethodId) (below : List Frame) (meth : Method) (c : Code) (A : Nat → Prop) (args : Array Value) (H : Heap) (locs : List Loc) (ls : Array Slot), p.tables.exec = Jvm.exec → c.code = cc → meth.sig.returnType = ret → c.maxLocals = maxL → s.vm.findClass own = some m.cls → q_Tb s → meth.locks = false →
      va_P D vwCl w H → va_K D vwCl [(cA, .int)] s → va_D A w → (∀ q : Nat, s.heap.size ≤ q → A q) → va_S A s.heap H locs → lv_has ls maxL (lv_args 0 av) → (∀ x ∈ c.exceptionTable.toList, False) → q_Xt s → q_Zz A s s.heap →
      W p l e rm s m args below meth c H locs 0 0 (q_GX D E w' A below args s) (F0 m 0 ls [])) : q_CX l y [Cond.code y cc maxL ret] rm D cA av w E w' := by
  intro sz
  refine vx_ofW (cc := cc) (maxL := maxL) (ret := ret) hy rfl ?_
  intro p e s m args below meth c s₁ B hml hout hv
  obtain ⟨rfl, ⟨hsz, hP, hK, hD0, hT⟩, hX, hZ⟩ := hv
  subst hsz
  have hl := lv_entry av (n := maxL) hn
  rw [lg_entry_eq]
  exact body p e s m below meth c _ _ _ [] _ B.exec B.bytes B.returns hml (ho ▸ findClass_of_methodNamed B.named) hT B.notSynchronized hP hK hD0.self (fun q h => Or.inr h) va_S.rf hl hout hX hZ
/-- the words of a throw of a class by name -/
def q_okX (ic : Nat) (E : String) : Prop := ∀ w ∈ vx_atS RX5 ic E ["java/lang/RuntimeException", "java/lang/Exception"], (w ∈ lw_tbl ∧ (goodWord w = true ∨ q_ok2 w = true)) ∧ vx_ot w = true
theorem q_ok_ise : q_okX 95 "java/lang/IllegalStateException" := by
  have h : ∀ w ∈ vx_atS RX5 95 "java/lang/IllegalStateException" ["java/lang/RuntimeException", "java/lang/Exception"], (w ∈ lw_tbl ∧ (goodWord w = true ∨ q_ok2 w = true)) ∧ vx_ot w = true := by decide +kernel
  exact h
theorem q_ok_iob : q_okX 185 "java/lang/IndexOutOfBoundsException" := by
  have h : ∀ w ∈ vx_atS RX5 185 "java/lang/IndexOutOfBoundsException" ["java/lang/RuntimeException", "java/lang/Exception"], (w ∈ lw_tbl ∧ (goodWord w = true ∨ q_ok2 w = true)) ∧ vx_ot w = true := by decide +kernel
  exact h
theorem q_ok_iae : q_okX 225 "java/lang/IllegalArgumentException" := by
  have h : ∀ w ∈ vx_atS RX5 225 "java/lang/IllegalArgumentException" ["java/lang/RuntimeException", "java/lang/Exception"], (w ∈ lw_tbl ∧ (goodWord w = true ∨ q_ok2 w = true)) ∧ vx_ot w = true := by decide +kernel
  exact h
section QT
variable {p : Program} {l : Launch} {e : Env} {R : Room} {s : State} {m : MethodId} {args : Array Value} {below : List Frame} {meth : Method} {c : Code} {H : Heap} {locs : List Loc} {cells slots : Nat} {Q : State → Prop}
variable {cc : ByteArray} {pc nL : Nat} {ls : Array Slot} {rest : List Value} {D : va_G} {A : Nat → Prop} {a : Nat} {ws w1 wc ws1 w' : va_W} {own : String} {cA : ClassId} {lv : List (Nat × Value)} {st : List Value} {E : String}
theorem q_throw {ik is ic : Nat} {text : String} (hx : p.tables.exec = Jvm.exec) (hb : c.code = cc) (htr : l.stackTraces = false) (hml : c.maxLocals = nL) (hown : s.vm.findClass RX5 = some m.cls) (hT : q_Tb s) (hX : q_Xt s) (hZ : q_Zz A s s.heap) (hP : va_P D vwCl w' H) (hS : va_S A s.heap H locs) (hl : lv_has ls nL lv) (hout : ∀ x ∈ c.exceptionTable.toList, False) (hlk : meth.locks = false)
    (kx : q_ok (.classLink RX5 ik E)) (ki : q_ok (.initialized E)) (hstr : (is, text) ∈ q_strs) (hok : q_okX ic E) (hfit : Bundle.fit E = true)
    (d0 : decode cc pc = .ok (.new ik, 3)) (d3 : decode cc (pc + 3) = .ok (.dup, 1)) (d4 : decode cc (pc + 4) = .ok (.ldc is, 2)) (d6 : decode cc (pc + 6) = .ok (.invokespecial ic, 3)) (d9 : decode cc (pc + 9) = .ok (.athrow, 1))
    (hR : 5 < R.frames ∧ (rest.map fun v => v.category).sum + 82 ≤ R.locals ∧ 1 ≤ R.cells ∧ 6 ≤ R.slots) :
    W p l e R s m args below meth c H locs 0 0 (q_GX D E w' A below args s) (F0 m pc ls rest) := by
  obtain ⟨sa, hsa⟩ := hX.2 _ hstr
  refine vx_throwS (A := A) (names := ["java/lang/RuntimeException", "java/lang/Exception"]) hx hb htr hown hfit (by decide +kernel) (hT.use kx args) (hT.use ki args) hsa (fun w hw => ?_) (fun w hw => ?_) hZ.1 hZ.2 hS (hl.1.trans hml.symm) d0 d3 d4 d6 d9 (fun x h => absurd (hout x h) id) hR.1 hR.2.1 (by omega) (by omega) hlk (fun t hvm hsz hk => ?_) hS.2.2 (Nat.le_refl _) (Nat.le_refl _)
  · obtain ⟨⟨h1, h2⟩, -⟩ := hok w hw
    rcases h2 with h2 | h2
    · exact hT.use ⟨h1, h2⟩ args
    · have h3 := hX.1 w h1 h2
      refine va_Nw.use ?_ h3
      cases w <;> simp_all [q_ok2, Cond.onTables]
  · rcases List.mem_cons.mp hw with rfl | hw
    · rfl
    · rcases List.mem_cons.mp hw with rfl | hw
      · rfl
      · exact (hok w hw).2
  · exact ⟨(), trivial, ⟨rfl, hP.kept (fun k q hq => hk q.1 (hP k q hq).lt)⟩, ⟨Nat.le_trans hS.1 hsz, fun q h1 h2 => (hk q (Nat.lt_of_lt_of_le h1 hS.1)).trans (hS.2.1 q h1 h2)⟩⟩
theorem q_pcX {av : List Value} {w : va_W} {B : Nat → Prop} (hT : q_Tb s) (hX : q_Xt s) (hZ : q_Zz A s s.heap) (hS : va_S A s.heap H locs) (hKc : va_K D vwCl [(cA, .int)] s) (hPc : va_P D vwCl w H) (hDc : va_D B w) (hF : ∀ q, va_A w H.size q → A q) (U : State) (hU : U.heap = H) (hW : s.WarmedH U.vm) : va_Pc av (q_InX D cA w H.size) av.toArray U := by
  refine ⟨rfl, (q_pc (av := av) hT hKc hPc hDc U hU hW).2, hX.moved hW, ?_⟩
  rw [hU]
  exact hZ.to hS hF hW.alike
/-- behind a call that throws: out -/
theorem q_outX {ce : Cell} {q9 : Nat} {H1 : Heap} {locs1 : List Loc} (hout : ∀ x ∈ c.exceptionTable.toList, False) (hlk : meth.locks = false) (hcell : H1[q9]? = some ce) (hv : ce.vm = .none) (hcl : s.vm.findClass E = some ce.cls) (hP : va_P D vwCl w' H1) (hS1 : va_S A s.heap H1 locs1) :
    vx_W p l e R s m args below meth c H1 locs1 1 6 (q_GX D E w' A below args s) (F0 m pc ls rest) q9 :=
  vx_out (fun x h => absurd (hout x h) id) hlk hcell hv hcl (fun t ht hvm => ⟨(), trivial, ⟨rfl, by rw [ht]; exact hP⟩, hS1.F ht⟩) hS1.2.2 (Nat.le_refl _) (Nat.le_refl _)
theorem q_callXW {y : MethodName} {bytes : ByteArray} {maxL n index ci q0 b : Nat} {ret : Option FieldType} {rm : Room} {As : List Value} {fs : List Value} {T : u_T} {N : Nat} {C : String}
    (hx : p.tables.exec = Jvm.exec) (hb : c.code = cc) (hml : c.maxLocals = nL) (hown : s.vm.findClass own = some m.cls) (hT : q_Tb s) (hK : va_K D vwCl [(cA, .int)] s) (hP : va_P D vwCl ws H) (hD : va_D A ws) (hS : va_S A s.heap H locs) (hA : ∀ q : Nat, s.heap.size ≤ q → A q) (hout : ∀ x ∈ c.exceptionTable.toList, False) (hlk : meth.locks = false) (hX : q_Xt s) (hZ : q_Zz A s s.heap)
    (hM : q_CX l y [Cond.code y bytes maxL ret] rm D cA (.ref b :: As) ws E w1) (km : q_okM y bytes maxL ret n) (kl : q_ok (.methodLink own index y)) (hwc : ws[q0]? = some (b, .inr (ci, fs))) (hc : vwCl[ci]? = some (C, T, N)) (hyc : y.cls = C)
    (hl : lv_has ls nL lv) (hlen : As.length = n) (hst : st = As.reverse ++ .ref b :: rest) (hw : (rest.map fun v => v.category).sum ≤ 8)
    (hR : (rm.cells = 1 ∧ rm.slots = 6) ∧ rm.frames + 1 ≤ R.frames ∧ 8 + (maxL + 11) + rm.locals ≤ R.locals) (hf : 1 ≤ R.cells ∧ 6 ≤ R.slots) (hdg : decode cc pc = .ok (.invokevirtual index, 3)) :
    W p l e R s m args below meth c H locs 0 0 (q_GX D E w1 A below args s) (F0 m pc ls st) := by
  obtain ⟨k1, k2, k3, k4, k5, k6⟩ := km
  have hF := q_freeW hD hS hA
  refine vx_callv (vx_runV (As := As) (rest := rest) (Ts := []) ⟨hx, hb, hml, hown, fun _ h => absurd h List.not_mem_nil⟩ (hM H.size) (C := y.cls) ⟨q_cb hT k1 k2 k5 k6 kl hR.1.1 hR.1.2 hR.2, hT.use k3 args, hT.use k4 args⟩ ⟨q_blindX, ?_, fun U hU hW => q_pcX hT hX hZ hS hK hP hD hF U hU hW⟩ rfl hlen hl.1 hst (lv_room hw) hdg ⟨by omega, by omega⟩) hS (fun q _ h => hF q h) hF (fun q _ h => hF q h) (fun E' ce q9 u t H1 locs1 ht hvm hpx hB hz1 hk1 hS1 hce hcv hcl => ?_) (fun u t H1 locs1 ht hvm hpost hB hz1 hk1 hS1 => absurd hpost id)
  · obtain ⟨cell, g1, g2, g3⟩ := va_recv hK hP hc hwc
    exact ⟨cell, g1, g2, by rw [hyc]; exact g3⟩
  · obtain ⟨rfl, hB2⟩ := hB
    exact q_outX hout hlk hce hcv hcl (ht ▸ hB2) hS1
theorem q_callXS {y : MethodName} {bytes : ByteArray} {maxL n index : Nat} {ret : Option FieldType} {rm : Room} {As : List Value}
    (hx : p.tables.exec = Jvm.exec) (hb : c.code = cc) (hml : c.maxLocals = nL) (hown : s.vm.findClass own = some m.cls) (hT : q_Tb s) (hK : va_K D vwCl [(cA, .int)] s) (hP : va_P D vwCl ws H) (hD : va_D A ws) (hS : va_S A s.heap H locs) (hA : ∀ q : Nat, s.heap.size ≤ q → A q) (hout : ∀ x ∈ c.exceptionTable.toList, False) (hlk : meth.locks = false) (hX : q_Xt s) (hZ : q_Zz A s s.heap)
    (hM : q_CX l y [Cond.code y bytes maxL ret] rm D cA As [] E []) (km : q_okS y bytes maxL ret n) (kl : q_ok (.methodLink own index y))
    (hl : lv_has ls nL lv) (hlen : As.length = n) (hst : st = As.reverse ++ rest) (hw : (rest.map fun v => v.category).sum ≤ 8)
    (hR : (rm.cells = 1 ∧ rm.slots = 6) ∧ rm.frames + 1 ≤ R.frames ∧ 8 + (maxL + 11) + rm.locals ≤ R.locals) (hf : 1 ≤ R.cells ∧ 6 ≤ R.slots) (hdg : decode cc pc = .ok (.invokestatic index, 3)) :
    W p l e R s m args below meth c H locs 0 0 (q_GX D E ws A below args s) (F0 m pc ls st) := by
  obtain ⟨k1, k2, k3, k5, k6⟩ := km
  have hPc : va_P D vwCl [] H := fun k q h => by simp at h
  have hDc : va_D A [] := ⟨fun i j p q h => by simp at h, fun k q h => by simp at h⟩
  have hF : ∀ q, va_A [] H.size q → A q := va_free (wc := []) hD hS hA [] rfl
  refine vx_callv (vx_runS (As := As) (rest := rest) (Ts := []) ⟨hx, hb, hml, hown, fun _ h => absurd h List.not_mem_nil⟩ (hM H.size) ⟨q_cb hT k1 k2 k5 k6 kl hR.1.1 hR.1.2 hR.2, hT.use k3 args⟩ ⟨q_blindX, fun U hU hW => q_pcX hT hX hZ hS hK hPc hDc hF U hU hW⟩ rfl hlen hl.1 hst (lv_room hw) hdg ⟨by omega, by omega⟩) hS (fun q _ h => hF q h) hF (fun q _ h => hF q h) (fun E' ce q9 u t H1 locs1 ht hvm hpx hB hz1 hk1 hS1 hce hcv hcl => ?_) (fun u t H1 locs1 ht hvm hpost hB hz1 hk1 hS1 => absurd hpost id)
  obtain ⟨rfl, hB2⟩ := hB
  obtain ⟨f1, f2⟩ := q_frame [] hP hD (wc := []) (w1 := []) rfl rfl hk1 (fun k q h => by simp at h)
  exact q_outX hout hlk hce hcv hcl f1 hS1
end QT
