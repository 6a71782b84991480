/-! the law's own methods: words, what their starts give, contracts, rows -/
def q_okW (y : MethodName) (bytes : ByteArray) (maxL : Nat) (ret : Option FieldType) (hh : List (Nat × Nat × Nat × Nat)) (n : Nat) : Prop :=
  q_ok (.codeWith y bytes maxL ret hh) ∧ q_ok (.initialized y.cls) ∧ q_ok (.static y) ∧ (y.cls ≠ "java/lang/invoke/MethodHandle" ∧ y.cls ≠ "java/lang/invoke/VarHandle") ∧ (parseMethodDescriptor y.desc).map (fun d => d.parameters.length) = some n
theorem k_L_mention : q_okW yL_mention cL_mention 7 (some .int) [(0, 14, 17, 13), (0, 14, 21, 15), (0, 14, 25, 17)] 6 := ⟨⟨List.mem_of_getElem? (i := 276) (by decide +kernel), by decide +kernel⟩, ki_OfficeholdersRollLaw, ⟨List.mem_of_getElem? (i := 275) (by decide +kernel), by decide +kernel⟩, ⟨by decide +kernel, by decide +kernel⟩, by decide +kernel⟩
theorem k_L_rank : q_okW yL_rank cL_rank 5 (some .int) [(0, 10, 13, 13), (0, 10, 17, 15)] 4 := ⟨⟨List.mem_of_getElem? (i := 406) (by decide +kernel), by decide +kernel⟩, ki_OfficeholdersRollLaw, ⟨List.mem_of_getElem? (i := 405) (by decide +kernel), by decide +kernel⟩, ⟨by decide +kernel, by decide +kernel⟩, by decide +kernel⟩
theorem k_L_bar : q_okW yL_bar cL_bar 6 (some .int) [(0, 19, 22, 13), (0, 19, 26, 15)] 5 := ⟨⟨List.mem_of_getElem? (i := 413) (by decide +kernel), by decide +kernel⟩, ki_OfficeholdersRollLaw, ⟨List.mem_of_getElem? (i := 412) (by decide +kernel), by decide +kernel⟩, ⟨by decide +kernel, by decide +kernel⟩, by decide +kernel⟩
theorem k_L_ahead : q_okW yL_ahead cL_ahead 6 (some .int) [(0, 12, 15, 13), (0, 12, 19, 15), (0, 12, 23, 17)] 5 := ⟨⟨List.mem_of_getElem? (i := 438) (by decide +kernel), by decide +kernel⟩, ki_OfficeholdersRollLaw, ⟨List.mem_of_getElem? (i := 437) (by decide +kernel), by decide +kernel⟩, ⟨by decide +kernel, by decide +kernel⟩, by decide +kernel⟩
theorem k_L_find : q_okW yL_find cL_find 6 (some .int) [(0, 12, 15, 13), (0, 12, 19, 15), (0, 12, 23, 17)] 5 := ⟨⟨List.mem_of_getElem? (i := 498) (by decide +kernel), by decide +kernel⟩, ki_OfficeholdersRollLaw, ⟨List.mem_of_getElem? (i := 497) (by decide +kernel), by decide +kernel⟩, ⟨by decide +kernel, by decide +kernel⟩, by decide +kernel⟩
theorem k_L_wouldMove : q_okW yL_wouldMove cL_wouldMove 6 (some .int) [(0, 12, 15, 13), (0, 12, 19, 15)] 5 := ⟨⟨List.mem_of_getElem? (i := 520) (by decide +kernel), by decide +kernel⟩, ki_OfficeholdersRollLaw, ⟨List.mem_of_getElem? (i := 519) (by decide +kernel), by decide +kernel⟩, ⟨by decide +kernel, by decide +kernel⟩, by decide +kernel⟩
theorem k_L_year : q_okW yL_year cL_year 5 (some .int) [(0, 10, 13, 13)] 4 := ⟨⟨List.mem_of_getElem? (i := 528) (by decide +kernel), by decide +kernel⟩, ki_OfficeholdersRollLaw, ⟨List.mem_of_getElem? (i := 527) (by decide +kernel), by decide +kernel⟩, ⟨by decide +kernel, by decide +kernel⟩, by decide +kernel⟩
theorem k_L_yearAnew : q_okW yL_yearAnew cL_yearAnew 5 (some .int) [(0, 10, 13, 13)] 4 := ⟨⟨List.mem_of_getElem? (i := 543) (by decide +kernel), by decide +kernel⟩, ki_OfficeholdersRollLaw, ⟨List.mem_of_getElem? (i := 542) (by decide +kernel), by decide +kernel⟩, ⟨by decide +kernel, by decide +kernel⟩, by decide +kernel⟩
theorem k_L_seal : q_okW yL_seal cL_seal 5 (some .int) [(0, 17, 20, 13), (0, 17, 24, 15)] 4 := ⟨⟨List.mem_of_getElem? (i := 575) (by decide +kernel), by decide +kernel⟩, ki_OfficeholdersRollLaw, ⟨List.mem_of_getElem? (i := 574) (by decide +kernel), by decide +kernel⟩, ⟨by decide +kernel, by decide +kernel⟩, by decide +kernel⟩
theorem k_L_block : q_okW yL_block cL_block 6 (some .int) [(0, 19, 22, 13), (0, 19, 26, 15)] 5 := ⟨⟨List.mem_of_getElem? (i := 582) (by decide +kernel), by decide +kernel⟩, ki_OfficeholdersRollLaw, ⟨List.mem_of_getElem? (i := 581) (by decide +kernel), by decide +kernel⟩, ⟨by decide +kernel, by decide +kernel⟩, by decide +kernel⟩
theorem k_L_weight : q_okW yL_weight cL_weight 5 (some .int) [(0, 10, 13, 13), (0, 10, 17, 15)] 4 := ⟨⟨List.mem_of_getElem? (i := 589) (by decide +kernel), by decide +kernel⟩, ki_OfficeholdersRollLaw, ⟨List.mem_of_getElem? (i := 588) (by decide +kernel), by decide +kernel⟩, ⟨by decide +kernel, by decide +kernel⟩, by decide +kernel⟩
theorem k_L_whyNot : q_okW yL_whyNot cL_whyNot 5 (some .int) [(0, 10, 13, 13), (0, 10, 17, 15)] 4 := ⟨⟨List.mem_of_getElem? (i := 601) (by decide +kernel), by decide +kernel⟩, ki_OfficeholdersRollLaw, ⟨List.mem_of_getElem? (i := 600) (by decide +kernel), by decide +kernel⟩, ⟨by decide +kernel, by decide +kernel⟩, by decide +kernel⟩
theorem k_L_join : q_okW yL_join cL_join 5 (some .int) [(0, 10, 13, 13), (0, 10, 17, 15), (0, 10, 21, 17)] 4 := ⟨⟨List.mem_of_getElem? (i := 633) (by decide +kernel), by decide +kernel⟩, ki_OfficeholdersRollLaw, ⟨List.mem_of_getElem? (i := 632) (by decide +kernel), by decide +kernel⟩, ⟨by decide +kernel, by decide +kernel⟩, by decide +kernel⟩
theorem k_L_split : q_okW yL_split cL_split 4 (some .int) [(0, 9, 12, 13), (0, 9, 15, 17)] 3 := ⟨⟨List.mem_of_getElem? (i := 647) (by decide +kernel), by decide +kernel⟩, ki_OfficeholdersRollLaw, ⟨List.mem_of_getElem? (i := 646) (by decide +kernel), by decide +kernel⟩, ⟨by decide +kernel, by decide +kernel⟩, by decide +kernel⟩
theorem k_L_person : q_okW yL_person cL_person 4 (some .int) [(0, 9, 12, 13)] 3 := ⟨⟨List.mem_of_getElem? (i := 659) (by decide +kernel), by decide +kernel⟩, ki_OfficeholdersRollLaw, ⟨List.mem_of_getElem? (i := 658) (by decide +kernel), by decide +kernel⟩, ⟨by decide +kernel, by decide +kernel⟩, by decide +kernel⟩
theorem k_L_entry : q_okW yL_entry cL_entry 4 (some .int) [(0, 9, 12, 13)] 3 := ⟨⟨List.mem_of_getElem? (i := 666) (by decide +kernel), by decide +kernel⟩, ki_OfficeholdersRollLaw, ⟨List.mem_of_getElem? (i := 665) (by decide +kernel), by decide +kernel⟩, ⟨by decide +kernel, by decide +kernel⟩, by decide +kernel⟩
theorem k_L_size : q_okW yL_size cL_size 4 (some .int) [(0, 9, 12, 13)] 3 := ⟨⟨List.mem_of_getElem? (i := 682) (by decide +kernel), by decide +kernel⟩, ki_OfficeholdersRollLaw, ⟨List.mem_of_getElem? (i := 681) (by decide +kernel), by decide +kernel⟩, ⟨by decide +kernel, by decide +kernel⟩, by decide +kernel⟩
theorem k_L_careerAt : q_okW yL_careerAt cL_careerAt 5 (some .int) [(0, 10, 13, 13)] 4 := ⟨⟨List.mem_of_getElem? (i := 689) (by decide +kernel), by decide +kernel⟩, ki_OfficeholdersRollLaw, ⟨List.mem_of_getElem? (i := 688) (by decide +kernel), by decide +kernel⟩, ⟨by decide +kernel, by decide +kernel⟩, by decide +kernel⟩
theorem k_L_breaches : q_okW yL_breaches cL_breaches 4 (some .int) [(0, 9, 12, 13)] 3 := ⟨⟨List.mem_of_getElem? (i := 705) (by decide +kernel), by decide +kernel⟩, ki_OfficeholdersRollLaw, ⟨List.mem_of_getElem? (i := 704) (by decide +kernel), by decide +kernel⟩, ⟨by decide +kernel, by decide +kernel⟩, by decide +kernel⟩
theorem k_L_kin : q_okW yL_kin cL_kin 5 (some .int) [(0, 17, 20, 13), (0, 17, 24, 15)] 4 := ⟨⟨List.mem_of_getElem? (i := 716) (by decide +kernel), by decide +kernel⟩, ki_OfficeholdersRollLaw, ⟨List.mem_of_getElem? (i := 715) (by decide +kernel), by decide +kernel⟩, ⟨by decide +kernel, by decide +kernel⟩, by decide +kernel⟩
theorem k_L_degree : q_okW yL_degree cL_degree 5 (some .int) [(0, 10, 13, 13)] 4 := ⟨⟨List.mem_of_getElem? (i := 723) (by decide +kernel), by decide +kernel⟩, ki_OfficeholdersRollLaw, ⟨List.mem_of_getElem? (i := 722) (by decide +kernel), by decide +kernel⟩, ⟨by decide +kernel, by decide +kernel⟩, by decide +kernel⟩
theorem k_L_best : q_okW yL_best cL_best 4 (some .int) [(0, 9, 12, 15)] 3 := ⟨⟨List.mem_of_getElem? (i := 743) (by decide +kernel), by decide +kernel⟩, ki_OfficeholdersRollLaw, ⟨List.mem_of_getElem? (i := 742) (by decide +kernel), by decide +kernel⟩, ⟨by decide +kernel, by decide +kernel⟩, by decide +kernel⟩
theorem k_L_bestAnew : q_okW yL_bestAnew cL_bestAnew 4 (some .int) [(0, 9, 12, 15)] 3 := ⟨⟨List.mem_of_getElem? (i := 810) (by decide +kernel), by decide +kernel⟩, ki_OfficeholdersRollLaw, ⟨List.mem_of_getElem? (i := 809) (by decide +kernel), by decide +kernel⟩, ⟨by decide +kernel, by decide +kernel⟩, by decide +kernel⟩
theorem k_L_rival : q_okW yL_rival cL_rival 5 (some .int) [(0, 10, 13, 13), (0, 10, 17, 15)] 4 := ⟨⟨List.mem_of_getElem? (i := 834) (by decide +kernel), by decide +kernel⟩, ki_OfficeholdersRollLaw, ⟨List.mem_of_getElem? (i := 833) (by decide +kernel), by decide +kernel⟩, ⟨by decide +kernel, by decide +kernel⟩, by decide +kernel⟩
theorem q_cast_iob : Cond.castable "java/lang/IndexOutOfBoundsException" "java/lang/IndexOutOfBoundsException" ∈ lw_tbl := List.mem_of_getElem? (i := 289) (by decide +kernel)
theorem q_cast_iae : Cond.castable "java/lang/IllegalArgumentException" "java/lang/IllegalArgumentException" ∈ lw_tbl := List.mem_of_getElem? (i := 360) (by decide +kernel)
theorem q_cast_ise : Cond.castable "java/lang/IllegalStateException" "java/lang/IllegalStateException" ∈ lw_tbl := List.mem_of_getElem? (i := 376) (by decide +kernel)
def q_Nc (U : State) : Prop := va_Nc "java/lang/IllegalArgumentException" "java/lang/IndexOutOfBoundsException" U ∧ va_Nc "java/lang/IllegalStateException" "java/lang/IndexOutOfBoundsException" U ∧ va_Nc "java/lang/IllegalStateException" "java/lang/IllegalArgumentException" U
theorem q_Nc.moved {u U : State} (hvm : u.vm.Alike U.vm) (h : q_Nc u) : q_Nc U := ⟨h.1.moved hvm, h.2.1.moved hvm, h.2.2.moved hvm⟩
def q_InL (D : va_G) (cA cL : ClassId) (ws : va_W) (sz : Nat) (U : State) : Prop :=
  (U.heap.size = sz ∧ va_P D vwCl ws U.heap ∧ va_K D vwCl [(cA, .int), (cL, .long)] U ∧ va_D (fun _ => True) ws ∧ q_Tb U) ∧ (q_Xt U ∧ q_Nc U) ∧ q_Zz (va_A ws sz) U U.heap
theorem q_blindL {D : va_G} {cA cL : ClassId} {ws : va_W} {sz : Nat} {av : List Value} : FrameBlind (va_Pc av (q_InL D cA cL ws sz)) := fun a U g mk q => by
  obtain ⟨q0, ⟨q1, qP, qK, qD, qT⟩, ⟨qX, qN⟩, qZ⟩ := q
  exact ⟨q0, ⟨q1, qP, va_K.moved (u := U) (U := U.calling g mk a) (Vm.Alike.refl U.vm) qK, qD, q_Tb.moved qT (State.WarmedH.refl U)⟩, ⟨qX.moved (State.WarmedH.refl U), q_Nc.moved (u := U) (U := U.calling g mk a) (Vm.Alike.refl U.vm) qN⟩, ⟨vx_Zq.moved (u := U) (U := U.calling g mk a) (Vm.Alike.refl U.vm) qZ.1, vx_Zq.moved (u := U) (U := U.calling g mk a) (Vm.Alike.refl U.vm) qZ.2⟩⟩
/-- an int answer, the cells behind, a cell of six slots may be new -/
def q_CL (l : Launch) (y : MethodName) (cw : List Cond) (rm : Room) (D : va_G) (cA cL : ClassId) (av : List Value) (w : va_W) (r : Int32) (w' : va_W) : Prop :=
  ∀ sz : Nat, Met l y cw rm (va_Pc av (q_InL D cA cL w sz)) (va_Qi (fun (r' : Int32) (_ : Unit) => r' = r) (fun _ t => va_P D vwCl w' t.heap) (va_A w sz)) 1 6 (va_A w sz)
def q_GL (D : va_G) (r : Int32) (w' : va_W) (A : Nat → Prop) (below : List Frame) (args : Array Value) (s : State) : State → Prop := MQ below (va_Qi (fun (r' : Int32) (_ : Unit) => r' = r) (fun _ t => va_P D vwCl w' t.heap) A) args s 1 6 A
abbrev rm_L : Room := { frames := 9, cells := 1, slots := 6, locals := 180 }
theorem q_startL {l : Launch} {y : MethodName} {cc : ByteArray} {maxL : Nat} {hh : List (Nat × Nat × Nat × Nat)} {D : va_G} {cA cL : ClassId} {av : List Value} {w w' : va_W} {r : Int32} (own : String) (hy : plainName y.cls = true) (ho : y.cls = own) (hn : (lg_sl av).length ≤ maxL)
    (body : ∀ (p : Program) (e : Env) (s : State) (m : MethodId) (below : List Frame) (meth : Method) (c : Code) (A : Nat → Prop) (args : Array Value) (H : Heap) (locs : List Loc) (ls : Array Slot), p.tables.exec = Jvm.exec → c.code = cc → meth.sig.returnType = some .int → c.maxLocals = maxL → s.vm.findClass own = some m.cls → q_Tb s → meth.locks = false →
      va_P D vwCl w H → va_K D vwCl [(cA, .int), (cL, .long)] s → va_D A w → (∀ q : Nat, s.heap.size ≤ q → A q) → va_S A s.heap H locs → lv_has ls maxL (lv_args 0 av) → c.exceptionTable.toList = tableOf hh → q_Xt s → q_Nc s → q_Zz A s s.heap →
      W p l e rm_L s m args below meth c H locs 0 0 (q_GL D r w' A below args s) (F0 m 0 ls [])) : q_CL l y [Cond.codeWith y cc maxL (some .int) hh] rm_L D cA cL av w r w' := by
  intro sz
  refine va_MetW (cc := cc) (maxL := maxL) (ret := some .int) (hh := hh) hy rfl ?_
  intro p e s m args below meth c s₁ B hml hv
  obtain ⟨rfl, ⟨hsz, hP, hK, hD0, hT⟩, ⟨hX, hN⟩, hZ⟩ := hv
  subst hsz
  have hl := lv_entry av (n := maxL) hn
  have htb := vx_table (x := y) B (atoms_spec (ws := [Cond.codeWith y cc maxL (some .int) hh]) B.pre _ List.mem_cons_self)
  rw [lg_entry_eq]
  exact body p e s m below meth c _ _ _ [] _ B.exec B.bytes B.returns hml (ho ▸ findClass_of_methodNamed B.named) hT B.notSynchronized hP hK hD0.self (fun q h => Or.inr h) va_S.rf hl htb hX hN hZ
theorem wp_1 {x : Nat × va_E} {w : va_W} : x :: w = [x] ++ (w ++ []) := by rw [List.append_nil]; rfl
theorem wp_3 {u w : va_W} : u ++ w = u ++ (w ++ []) := by rw [List.append_nil]
section QL
variable {p : Program} {l : Launch} {e : Env} {R : Room} {s : State} {m : MethodId} {args : Array Value} {below : List Frame} {meth : Method} {c : Code} {H : Heap} {locs : List Loc} {cells slots : Nat} {Q : State → Prop}
variable {cc : ByteArray} {pc nL : Nat} {ls : Array Slot} {rest : List Value} {D : va_G} {A : Nat → Prop} {a : Nat} {ws w1 wc ws1 w' : va_W} {H0 : Heap} {own : String} {cA cL : ClassId} {lv : List (Nat × Value)} {st : List Value} {E : String}
theorem q_kint (hK : va_K D vwCl [(cA, .int), (cL, .long)] s) : va_K D vwCl [(cA, .int)] s := hK.sub [0] rfl
theorem q_lret {r v : Int32} (hx : p.tables.exec = Jvm.exec) (hb : c.code = cc) (hr : meth.sig.returnType = some .int) (hlk : meth.locks = false) (hv : v = r) (hP : va_P D vwCl w' H) (hS : va_S A s.heap H locs) (h1 : cells ≤ 1) (h2 : slots ≤ 6) (hdg : decode cc pc = .ok (.ireturn, 1)) :
    W p l e R s m args below meth c H locs cells slots (q_GL D r w' A below args s) (F0 m pc ls [.int v]) :=
  W.widen h1 h2 (W.iret hx hb hr (fun t ht hW => ⟨⟨v, (), rfl, hv, by show va_P D vwCl w' t.heap; rw [ht]; exact hP⟩, hS.F ht⟩) hS.2.2 hdg hlk)
theorem q_last {f : Nat → Int64} (hx : p.tables.exec = Jvm.exec) (hb : c.code = cc) (hK : va_K D vwCl [(cA, .int), (cL, .long)] s) (hP : va_P D vwCl ws H) (hD : va_D A ws) (hS : va_S A H0 H locs) (q0 : Nat) (ha : ws[q0]? = some (a, .inl (cL, 1, .inr (.inl f)))) {i : Int32} (hi : i = nI 0) {x : Int64} (hset : ws.set q0 (a, .inl (cL, 1, .inr (.inl (vp_updL f 0 x)))) = ws1) (hdg : decode cc pc = .ok (.lastore, 1))
    (kk : ∀ (H1 : Heap) (locs1 : List Loc), va_P D vwCl ws1 H1 → va_D A ws1 → va_S A H0 H1 locs1 → W p l e R s m args below meth c H1 locs1 cells slots Q (F0 m (pc + 1) ls rest)) : W p l e R s m args below meth c H locs cells slots Q (F0 m pc ls (.long x :: .int i :: .ref a :: rest)) := by
  subst hi
  subst hset
  refine va_last hx hb hK hP hD hS q0 1 ha rfl (vp_in_nI (by omega) (by omega)) hdg (fun H1 locs1 hP1 hD1 hS1 => ?_)
  rw [nI_clamp (by omega)] at hP1 hD1
  exact kk H1 locs1 hP1 hD1 hS1
theorem q_lald {f : Nat → Int64} (hx : p.tables.exec = Jvm.exec) (hb : c.code = cc) (hK : va_K D vwCl [(cA, .int), (cL, .long)] s) (hP : va_P D vwCl ws H) (q0 : Nat) (ha : ws[q0]? = some (a, .inl (cL, 1, .inr (.inl f)))) {i : Int32} (hi : i = nI 0) (hdg : decode cc pc = .ok (.laload, 1))
    (kk : W p l e R s m args below meth c H locs cells slots Q (F0 m (pc + 1) ls (.long (f 0) :: rest))) : W p l e R s m args below meth c H locs cells slots Q (F0 m pc ls (.int i :: .ref a :: rest)) := by
  subst hi
  refine va_lald hx hb hK hP q0 1 ha rfl (vp_in_nI (by omega) (by omega)) hdg ?_
  rw [nI_clamp (by omega)]
  exact kk
/-- a call of a method that throws, caught here by the row x of the table -/
theorem q_callXC {y : MethodName} {bytes : ByteArray} {maxL n index ci q0 b : Nat} {ret : Option FieldType} {rm : Room} {As : List Value} {fs : List Value} {T : u_T} {N : Nat} {C name : String}
    (hx : p.tables.exec = Jvm.exec) (hb : c.code = cc) (hml : c.maxLocals = nL) (hown : s.vm.findClass own = some m.cls) (hT : q_Tb s) (hK : va_K D vwCl [(cA, .int)] s) (hP : va_P D vwCl ws H) (hD : va_D A ws) (hS : va_S A s.heap H locs) (hA : ∀ q : Nat, s.heap.size ≤ q → A q) (hX : q_Xt s) (hZ : q_Zz A s s.heap)
    (hM : q_CX l y [Cond.code y bytes maxL ret] rm D cA (.ref b :: As) wc E w1) (km : q_okM y bytes maxL ret n) (kl : q_ok (.methodLink own index y)) (hwc : wc[q0]? = some (b, .inr (ci, fs))) (hc : vwCl[ci]? = some (C, T, N)) (hyc : y.cls = C)
    (pre suf : va_W) (h1 : ws = pre ++ (wc ++ suf)) (h2 : pre ++ (w1 ++ suf) = ws1) (hadr : w1.map Prod.fst = wc.map Prod.fst) (hl : lv_has ls nL lv) (hlen : As.length = n) (hst : st = As.reverse ++ .ref b :: rest) (hw : (rest.map fun v => v.category).sum ≤ 8)
    (hR : (rm.cells = 1 ∧ rm.slots = 6) ∧ rm.frames + 1 ≤ R.frames ∧ 8 + (maxL + 11) + rm.locals ≤ R.locals) (hf : cells + 1 ≤ R.cells ∧ slots + 6 ≤ R.slots) (hdg : decode cc pc = .ok (.invokevirtual index, 3))
    (tp : List ExceptionTableEntry) (x : ExceptionTableEntry) (ts : List ExceptionTableEntry) (htb : c.exceptionTable.toList = tp ++ x :: ts) (hpass : ∀ z ∈ tp, covers z pc = false ∨ (z.catchType ≠ 0 ∧ ∃ nm : String, (Cond.classLink own z.catchType nm).before args s = true ∧ va_Nc E nm s))
    (hcov : covers x pc = true) (hct : x.catchType ≠ 0) (hlink : q_ok (.classLink own x.catchType name)) (hcast : Cond.castable E name ∈ lw_tbl)
    (kk : ∀ (q9 : Nat) (H1 : Heap) (locs1 : List Loc), va_P D vwCl ws1 H1 → va_D A ws1 → va_S A s.heap H1 locs1 → W p l e R s m args below meth c H1 locs1 (cells + 1) (slots + 6) Q (F0 m x.handlerPc ls [.ref q9])) : W p l e R s m args below meth c H locs cells slots Q (F0 m pc ls st) := by
  subst h1
  subst h2
  obtain ⟨k1, k2, k3, k4, k5, k6⟩ := km
  have hPc : va_P D vwCl wc H := q_mid hP
  have hDc : va_D A wc := q_midD hD
  have hF := q_freeW hDc hS hA
  refine vx_callv (vx_runV (As := As) (rest := rest) (Ts := []) ⟨hx, hb, hml, hown, fun _ h => absurd h List.not_mem_nil⟩ (hM H.size) (C := y.cls) ⟨q_cb hT k1 k2 k5 k6 kl hR.1.1 hR.1.2 hR.2, hT.use k3 args, hT.use k4 args⟩ ⟨q_blindX, ?_, fun U hU hW => q_pcX hT hX hZ hS hK hPc hDc hF U hU hW⟩ rfl hlen hl.1 hst (lv_room hw) hdg hf) hS (fun q _ h => hF q h) hF (fun q _ h => hF q h) (fun E' ce q9 u t H1 locs1 ht hvm hpx hB hz1 hk1 hS1 hce hcv hcl => ?_) (fun u t H1 locs1 ht hvm hpost hB hz1 hk1 hS1 => absurd hpost id)
  · obtain ⟨cell, g1, g2, g3⟩ := va_recv hK hPc hc hwc
    exact ⟨cell, g1, g2, by rw [hyc]; exact g3⟩
  · obtain ⟨rfl, hB2⟩ := hB
    obtain ⟨f1, f2⟩ := q_frameS hP hD hadr hk1 (ht ▸ hB2)
    exact vx_catch hown tp x ts htb hpass hcov hct (hT.use hlink args) (va_Nw.use rfl (hX.1 _ hcast rfl)) hce hcv hcl (kk q9 H1 locs1 f1 f2 hS1)
end QL
/-- a truth as a long -/
def q_L (b : Bool) : Int64 := bif b then 1 else 0
