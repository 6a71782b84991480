/-! constructors: what they start with, their contracts, the rows of a new object and of a new array -/
def q_InN (D : va_G) (cA : ClassId) (ws : va_W) (sz : Nat) (U : State) : Prop := q_In D cA ws sz U ∧ q_Tx U
theorem q_blindN {D : va_G} {cA : ClassId} {ws : va_W} {sz : Nat} {av : List Value} : FrameBlind (va_Pc av (q_InN D cA ws sz)) := fun a U g mk q => by
  obtain ⟨q0, q1, qX⟩ := q
  exact ⟨q0, (q_blind a U g mk ⟨q0, q1⟩).2, qX.moved (State.WarmedH.refl U)⟩
/-- new cells: a world by a choice of addresses -/
def q_NQ {S : Type} (D : va_G) (P : S → Prop) (w' : S → va_W) (A : Nat → Prop) : Array Value → State → Outcome → State → Prop := va_Qv P (fun u t => va_P D vwCl (w' u) t.heap ∧ va_D A (w' u)) A
def q_CN {S : Type} (l : Launch) (y : MethodName) (cw : List Cond) (rm : Room) (D : va_G) (cA : ClassId) (av : List Value) (w : va_W) (P : S → Prop) (w' : S → va_W) (mc ms : Nat) : Prop :=
  ∀ sz : Nat, Met l y cw rm (va_Pc av (q_InN D cA w sz)) (q_NQ D P w' (va_A w sz)) mc ms (va_A w sz)
def q_GN {S : Type} (D : va_G) (P : S → Prop) (w' : S → va_W) (A : Nat → Prop) (below : List Frame) (args : Array Value) (s : State) (mc ms : Nat) : State → Prop := MQ below (q_NQ D P w' A) args s mc ms A
theorem q_startN {S : Type} {l : Launch} {y : MethodName} {cc : ByteArray} {maxL mc ms : Nat} {rm : Room} {D : va_G} {cA : ClassId} {av : List Value} {w : va_W} {P : S → Prop} {w' : S → va_W} (own : String) (hy : plainName y.cls = true) (ho : y.cls = own) (hyn : y.name = "<init>") (hn : (lg_sl av).length ≤ maxL)
    (body : ∀ (p : Program) (e : Env) (s : State) (m : MethodId) (below : List Frame) (meth : Method) (c : Code) (A : Nat → Prop) (args : Array Value) (H : Heap) (locs : List Loc) (ls : Array Slot), p.tables.exec = Jvm.exec → c.code = cc → meth.sig.returnType = none → c.maxLocals = maxL → s.vm.findClass own = some m.cls → q_Tb s → meth.locks = false →
      va_P D vwCl w H → va_K D vwCl [(cA, .int)] s → va_D A w → (∀ q : Nat, s.heap.size ≤ q → A q) → va_S A s.heap H locs → lv_has ls maxL (lv_args 0 av) → q_Tx s → meth.name = "<init>" →
      W p l e rm s m args below meth c H locs 0 0 (q_GN D P w' A below args s mc ms) (F0 m 0 ls [])) : q_CN l y [Cond.code y cc maxL none] rm D cA av w P w' mc ms := by
  intro sz
  refine Met.ofW (cc := cc) (maxL := maxL) (ret := none) hy rfl ?_
  intro p e s m args below meth c s₁ B hml hv
  obtain ⟨rfl, ⟨hsz, hP, hK, hD0, hT⟩, hX⟩ := hv
  subst hsz
  have hl := lv_entry av (n := maxL) hn
  rw [lg_entry_eq]
  exact body p e s m below meth c _ _ _ [] _ B.exec B.bytes B.returns hml (ho ▸ findClass_of_methodNamed B.named) hT B.notSynchronized hP hK hD0.self (fun q h => Or.inr h) va_S.rf hl hX ((name_of_methodNamed B.named B.method).1.trans hyn)
theorem q_k_oi : q_ok (.instanceMethod objectInit) := ⟨List.mem_of_getElem? (i := 60) (by decide +kernel), by decide +kernel⟩
section QN
variable {p : Program} {l : Launch} {e : Env} {R : Room} {s : State} {m : MethodId} {args : Array Value} {below : List Frame} {meth : Method} {c : Code} {H : Heap} {locs : List Loc} {cells slots : Nat} {Q : State → Prop}
variable {cc : ByteArray} {pc nL : Nat} {ls : Array Slot} {rest : List Value} {D : va_G} {A : Nat → Prop} {a : Nat} {ws ws1 wr : va_W} {H0 : Heap} {own : String} {cA : ClassId} {lv : List (Nat × Value)} {st : List Value}
theorem q_nret {S : Type} {P : S → Prop} {w' : S → va_W} (u : S) (hx : p.tables.exec = Jvm.exec) (hb : c.code = cc) (hr : meth.sig.returnType = none) (hlk : meth.locks = false) (hu : P u) (hP : va_P D vwCl (w' u) H) (hD : va_D A (w' u)) (hS : va_S A s.heap H locs) (hdg : decode cc pc = .ok (.return_, 1)) :
    W p l e R s m args below meth c H locs cells slots (q_GN D P w' A below args s cells slots) (F0 m pc ls []) :=
  W.vret hx hb hr (fun t ht hW => ⟨⟨u, rfl, hu, by rw [ht]; exact hP, hD⟩, hS.F ht⟩) hS.2.2 hdg hlk
theorem q_oinit {index : Nat} (hx : p.tables.exec = Jvm.exec) (hb : c.code = cc) (hml : c.maxLocals = nL) (hown : s.vm.findClass own = some m.cls) (hT : q_Tb s) (hl : lv_has ls nL lv) (kl : q_ok (.methodLink own index objectInit)) (hR : 1 ≤ R.frames ∧ (rest.map fun v => v.category).sum + 12 ≤ R.locals) (hdg : decode cc pc = .ok (.invokespecial index, 3))
    (kk : W p l e R s m args below meth c H locs cells slots Q (F0 m (pc + 3) ls rest)) : W p l e R s m args below meth c H locs cells slots Q (F0 m pc ls (.ref a :: rest)) :=
  W.objInit hx hb hown (hT.use kl args) (hT.use q_k_oi args) (hT.use kc_objectInit args) rfl (hl.1.trans hml.symm) rfl hdg hR.1 (by have h := hR.2; show 2 * 0 + _ + 12 ≤ _; omega) kk
theorem q_new {C : String} {T : u_T} {N ci index : Nat} (hx : p.tables.exec = Jvm.exec) (hb : c.code = cc) (hT : q_Tb s) (hown : s.vm.findClass own = some m.cls) (kw : ∀ w ∈ u_ws C T N, q_ok w) (ty : Nat → FieldType) (hty : ∀ k, k < N → parseFieldDescriptor (T k).2.2.1 = some (ty k)) (kc : q_ok (.classLink own index C)) (kn : q_ok (.instantiable C N)) (ki : q_ok (.initialized C))
    (hK : va_K D vwCl [(cA, .int)] s) (hP : va_P D vwCl ws H) (hD : va_D A ws) (hS : va_S A H0 H locs) (hA : ∀ q, H0.size ≤ q → A q) (hc : vwCl[ci]? = some (C, T, N)) (fs : List Value) (hfs : ∀ j, j < N → defaultValue (ty j) = vp_V fs j) (hcells : cells + 1 ≤ R.cells) (hslots : slots + N ≤ R.slots) (hdg : decode cc pc = .ok (.new index, 3))
    (kk : ∀ (q : Nat) (H1 : Heap), va_P D vwCl (ws ++ [(q, .inr (ci, fs))]) H1 → va_D A (ws ++ [(q, .inr (ci, fs))]) → va_S A H0 H1 locs →
      W p l e R s m args below meth c H1 locs (cells + 1) (slots + N) Q (F0 m (pc + 3) ls (.ref q :: rest))) : W p l e R s m args below meth c H locs cells slots Q (F0 m pc ls rest) :=
  va_new hx hb (Ts := u_ws C T N) (fun w hw => hT.use (kw w hw) args) (fun w h => h) ty hty hown (hT.use kc args) (hT.use kn args) (hT.use ki args) hK hP hD hS hA hc hfs hcells hslots hdg kk
theorem q_newa {n : Nat} (hx : p.tables.exec = Jvm.exec) (hb : c.code = cc) (hT : q_Tb s) (hK : va_K D vwCl [(cA, .int)] s) (hP : va_P D vwCl ws H) (hD : va_D A ws) (hS : va_S A H0 H locs) (hA : ∀ q, H0.size ≤ q → A q) (hn : n ≤ 1000) (hcells : cells + 1 ≤ R.cells) (hslots : slots + n ≤ R.slots) (hdg : decode cc pc = .ok (.newarray .int, 2))
    (kk : ∀ (q : Nat) (H1 : Heap), va_P D vwCl (ws ++ [(q, .inl (cA, n, .inl (fun _ => nI 0)))]) H1 → va_D A (ws ++ [(q, .inl (cA, n, .inl (fun _ => nI 0)))]) → va_S A H0 H1 locs →
      W p l e R s m args below meth c H1 locs (cells + 1) (slots + n) Q (F0 m (pc + 2) ls (.ref q :: rest))) : W p l e R s m args below meth c H locs cells slots Q (F0 m pc ls (.int (nI n) :: rest)) := by
  have hcl := nI_clamp (n := n) (by omega)
  refine va_newa (atype := .int) hx hb (hT.use ka_int args) (ty := .int) rfl hK hP hD hS hA (N' := n) (a0 := (n, .inl (fun _ => nI 0))) (fun c9 => rfl) (nI_pos (by omega)) hcl (by show n * 4 ≤ _; omega) hcells hslots hdg (fun q cB H1 hK1 hP1 hD1 hS1 => ?_)
  have e1 : s.vm.findClass ("[" ++ FieldType.int.toString) = some cA := (hK.2 0 _ rfl).2
  have e2 : s.vm.findClass ("[" ++ FieldType.int.toString) = some cB := (hK1.2 1 _ rfl).2
  have e3 : cB = cA := Option.some.inj (e2.symm.trans e1)
  subst e3
  exact kk q H1 hP1 hD1 hS1
theorem q_range_map {α : Type} (w : List α) (x : List α) : (List.range w.length).map (fun i => (w ++ x)[i]?) = w.map some := by
  apply List.ext_getElem?
  intro i
  rw [List.getElem?_map, List.getElem?_map]
  by_cases h : i < w.length
  · rw [List.getElem?_range h]
    show some ((w ++ x)[i]?) = _
    rw [List.getElem?_append_left h, List.getElem?_eq_getElem h]
    rfl
  · rw [List.getElem?_eq_none (by simpa using h), List.getElem?_eq_none (by omega)]
    rfl
theorem q_nd_range' : ∀ (k n : Nat), va_nd (List.range' k n) = true
  | k, 0 => rfl
  | k, n + 1 => by
    rw [List.range'_succ, va_nd, Bool.and_eq_true]
    refine ⟨decide_eq_true (fun h => ?_), q_nd_range' (k + 1) n⟩
    have := (List.mem_range'_1.mp h).1
    omega
theorem q_nd_range (n : Nat) : va_nd (List.range n) = true := by
  rw [List.range_eq_range']; exact q_nd_range' 0 n
/-- what came of the last cell stands behind the others -/
theorem q_lastJ {x : Nat × va_E} {w1 : va_W} {H1 : Heap} (hP : va_P D vwCl (wr ++ [x]) H) (hD : va_D A (wr ++ [x])) (hk : ∀ q : Nat, q < H.size → ¬ va_A [x] H.size q → H1[q]? = H[q]?) (hF : ∀ q, va_A [x] H.size q → A q) (hP1 : va_P D vwCl w1 H1) (hD1 : va_D (va_A [x] H.size) w1) : va_P D vwCl (wr ++ w1) H1 ∧ va_D A (wr ++ w1) :=
  va_join (wc := [x]) (wr := wr) hP hD [wr.length] (List.range wr.length) (by simp) (q_range_map wr [x]) (q_nd_range _) (fun i h1 h2 => by rw [List.mem_singleton] at h2; have := List.mem_range.mp h1; omega) hk hF hP1 hD1
theorem q_lastC {x : Nat × va_E} : [wr.length].map (fun i => (wr ++ [x])[i]?) = [x].map some := by simp
theorem q_callN {S : Type} {P : S → Prop} {w1 : S → va_W} {y : MethodName} {bytes : ByteArray} {maxL n index b mc ms : Nat} {rm : Room} {As : List Value} {x : Nat × va_E}
    (hx : p.tables.exec = Jvm.exec) (hb : c.code = cc) (hml : c.maxLocals = nL) (hown : s.vm.findClass own = some m.cls) (hT : q_Tb s) (hX : q_Tx s) (hK : va_K D vwCl [(cA, .int)] s) (hP : va_P D vwCl (wr ++ [x]) H) (hD : va_D A (wr ++ [x])) (hS : va_S A H0 H locs) (hA : ∀ q : Nat, H0.size ≤ q → A q)
    (hM : q_CN l y [Cond.code y bytes maxL none] rm D cA (.ref b :: As) [x] P w1 mc ms) (km : q_okI y bytes maxL n) (kl : q_ok (.methodLink own index y))
    (hl : lv_has ls nL lv) (hlen : As.length = n) (hst : st = As.reverse ++ .ref b :: rest) (hw : (rest.map fun v => v.category).sum ≤ 8)
    (hR : (rm.cells = mc ∧ rm.slots = ms) ∧ rm.frames + 1 ≤ R.frames ∧ 8 + (maxL + 11) + rm.locals ≤ R.locals) (hf : cells + mc ≤ R.cells ∧ slots + ms ≤ R.slots) (hdg : decode cc pc = .ok (.invokespecial index, 3))
    (kk : ∀ (u : S) (H1 : Heap) (locs1 : List Loc), P u → va_P D vwCl (wr ++ w1 u) H1 → va_D A (wr ++ w1 u) → va_S A H0 H1 locs1 → W p l e R s m args below meth c H1 locs1 (cells + mc) (slots + ms) Q (F0 m (pc + 3) ls rest)) : W p l e R s m args below meth c H locs cells slots Q (F0 m pc ls st) := by
  obtain ⟨k1, k2, k3, k4, k5, k6⟩ := km
  have hPc : va_P D vwCl [x] H := q_part hP [wr.length] q_lastC
  have hDc : va_D A [x] := q_partD hD [wr.length] rfl q_lastC
  have hF := va_free hD hS hA [wr.length] q_lastC
  refine va_callv (va_runI (As := As) (rest := rest) (Ts := []) ⟨hx, hb, hml, hown, fun _ h => absurd h List.not_mem_nil⟩ (hM H.size) ⟨q_cb hT k1 k2 k5 k6 kl hR.1.1 hR.1.2 hR.2, k4, hT.use k3 args⟩ ⟨q_blindN, fun U hU hW => ⟨rfl, (q_pc (av := Value.ref b :: As) hT hK hPc hDc U hU hW).2, hX.moved hW⟩⟩ rfl hlen hl.1 hst (lv_room hw) hdg hf) hS (fun q _ h => hF q h) hF (fun u t H1 locs1 ht hvm hpost hB hz1 hk1 hS1 => ?_)
  obtain ⟨f1, f2⟩ := q_lastJ hP hD hk1 hF (ht ▸ hB.1) hB.2
  exact kk u H1 locs1 hpost f1 f2 hS1
theorem q_callNN {S : Type} {P : S → Prop} {w1 : S → va_W} {y : MethodName} {bytes : ByteArray} {maxL n index b mc ms : Nat} {rm : Room} {As : List Value} {x : Nat × va_E} {host : String}
    (hx : p.tables.exec = Jvm.exec) (hb : c.code = cc) (hml : c.maxLocals = nL) (hown : s.vm.findClass own = some m.cls) (hT : q_Tb s) (hX : q_Tx s) (hK : va_K D vwCl [(cA, .int)] s) (hP : va_P D vwCl (wr ++ [x]) H) (hD : va_D A (wr ++ [x])) (hS : va_S A H0 H locs) (hA : ∀ q : Nat, H0.size ≤ q → A q)
    (hM : q_CN l y [Cond.code y bytes maxL none] rm D cA (.ref b :: As) [x] P w1 mc ms) (km : q_okI y bytes maxL n) (kl : Cond.methodLinkNest own index y host ∈ lw_tbl)
    (hl : lv_has ls nL lv) (hlen : As.length = n) (hst : st = As.reverse ++ .ref b :: rest) (hw : (rest.map fun v => v.category).sum ≤ 8)
    (hR : (rm.cells = mc ∧ rm.slots = ms) ∧ rm.frames + 1 ≤ R.frames ∧ 8 + (maxL + 11) + rm.locals ≤ R.locals) (hf : cells + mc ≤ R.cells ∧ slots + ms ≤ R.slots) (hdg : decode cc pc = .ok (.invokespecial index, 3))
    (kk : ∀ (u : S) (H1 : Heap) (locs1 : List Loc), P u → va_P D vwCl (wr ++ w1 u) H1 → va_D A (wr ++ w1 u) → va_S A H0 H1 locs1 → W p l e R s m args below meth c H1 locs1 (cells + mc) (slots + ms) Q (F0 m (pc + 3) ls rest)) : W p l e R s m args below meth c H locs cells slots Q (F0 m pc ls st) := by
  obtain ⟨k1, k2, k3, k4, k5, k6⟩ := km
  have hPc : va_P D vwCl [x] H := q_part hP [wr.length] q_lastC
  have hDc : va_D A [x] := q_partD hD [wr.length] rfl q_lastC
  have hF := va_free hD hS hA [wr.length] q_lastC
  have ht : ∀ w ∈ [Cond.code y bytes maxL none], w.before args s = true := fun w hw => by rw [List.mem_singleton.mp hw]; exact hT.use k1 args
  refine va_callv (va_runIN (As := As) (rest := rest) (Ts := [Cond.code y bytes maxL none]) ⟨hx, hb, hml, hown, ht⟩ (hM H.size) ⟨va_cnB (ws' := []) n ht (goodIn_p _ [0] rfl (by simp [k1.2])) rfl hR.1.1 hR.1.2 (hX _ kl rfl) (hT.use k2 args) ⟨k5.1, k5.2, k6⟩ hR.2, k4, hT.use k3 args⟩ ⟨q_blindN, fun U hU hW => ⟨rfl, (q_pc (av := Value.ref b :: As) hT hK hPc hDc U hU hW).2, hX.moved hW⟩⟩ rfl hlen hl.1 hst (lv_room hw) hdg hf) hS (fun q _ h => hF q h) hF (fun u t H1 locs1 ht hvm hpost hB hz1 hk1 hS1 => ?_)
  obtain ⟨f1, f2⟩ := q_lastJ hP hD hk1 hF (ht ▸ hB.1) hB.2
  exact kk u H1 locs1 hpost f1 f2 hS1
theorem q_putF {C : String} {T : u_T} {N ci index : Nat} {ty0 : Nat → FieldType} (hx : p.tables.exec = Jvm.exec) (hb : c.code = cc) (hT : q_Tb s) (hown : s.vm.findClass own = some m.cls) (hK : va_K D vwCl [(cA, .int)] s) (hP : va_P D vwCl ws H) (hD : va_D A ws) (hS : va_S A H0 H locs) (kw : ∀ w ∈ u_ws C T N, q_ok w) (hty : ∀ k, k < N → parseFieldDescriptor (T k).2.2.1 = some (ty0 k)) (hnm : ∀ a, a < N → ∀ b, b < N → a ≠ b → (T a).2.1 ≠ (T b).2.1) (q0 : Nat) {fs : List Value} (he : ws[q0]? = some (a, .inr (ci, fs))) (hc : vwCl[ci]? = some (C, T, N)) (k : Nat) (hk : k < N) (kf : q_ok (.fieldLink own index C (T k).2.1 (T k).2.2.1)) (hsame : (T k).1 = C) (hfin : (T k).2.2.2 = true) (hin : meth.name = "<init>") (hdecl : (T k).1 = own) {ty : FieldType} {v : Value} (hd : parseFieldDescriptor (T k).2.2.1 = some ty) (hn : narrow ty v = v) (hfit : fits ty v = true) (hl : k < fs.length) (hset : ws.set q0 (a, .inr (ci, fs.set k v)) = ws1)
    (hdg : decode cc pc = .ok (.putfield index, 3)) (kk : ∀ (H1 : Heap) (locs1 : List Loc), va_P D vwCl ws1 H1 → va_D A ws1 → va_S A H0 H1 locs1 → W p l e R s m args below meth c H1 locs1 cells slots Q (F0 m (pc + 3) ls rest)) : W p l e R s m args below meth c H locs cells slots Q (F0 m pc ls (v :: .ref a :: rest)) := by
  subst hset
  exact va_putF hx hb (Ts := u_ws C T N) (fun w hw => hT.use (kw w hw) args) (fun w h => h) ty0 hty hnm hown hK hP hD hS q0 he hc k hk (hT.use kf args) (fun x h9 => by rw [hsame] at h9; exact h9) hfin hin hdecl hd hn hfit hl hdg kk
theorem q_max0 {index : Nat} {n : Nat} (hx : p.tables.exec = Jvm.exec) (hb : c.code = cc) (hml : c.maxLocals = nL) (hown : s.vm.findClass own = some m.cls) (hT : q_Tb s) (hl : lv_has ls nL lv) (kl : q_ok (.methodLink own index Lib.Math.max.name)) (hframes : 1 ≤ R.frames) (hlocals : (rest.map fun v => v.category).sum + 13 ≤ R.locals) (hc : cells ≤ R.cells ∧ slots ≤ R.slots) (hn : n ≤ 1000) (hdg : decode cc pc = .ok (.invokestatic index, 3))
    (kk : W p l e R s m args below meth c H locs cells slots Q (F0 m (pc + 3) ls (.int (nI n) :: rest))) : W p l e R s m args below meth c H locs cells slots Q (F0 m pc ls (.int (nI 0) :: .int (nI n) :: rest)) := by
  refine q_max hx hb hml hown hT hl kl hframes hlocals hc hdg ?_
  rw [q_maxN (by omega) (by omega), Nat.max_eq_left (Nat.zero_le _)]
  exact kk
end QN
