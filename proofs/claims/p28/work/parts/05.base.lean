/-! what a method's start gives; contracts of methods that make nothing: the answer and the cells behind, as terms -/
theorem q_Tb.moved {s U : State} (h : q_Tb s) (hW : s.WarmedH U.vm) : q_Tb U := fun w hw => word_at hW (good_of_word hw.2) (h w hw)
theorem q_Tb.use {s : State} (h : q_Tb s) {w : Cond} (hw : q_ok w) (a : Array Value) : w.before a s = true := word_at (State.WarmedH.refl s) (good_of_word hw.2) (h w hw)
def q_In (D : va_G) (cA : ClassId) (ws : va_W) (sz : Nat) (U : State) : Prop := U.heap.size = sz ∧ va_P D vwCl ws U.heap ∧ va_K D vwCl [(cA, .int)] U ∧ va_D (fun _ => True) ws ∧ q_Tb U
theorem q_blind {D : va_G} {cA : ClassId} {ws : va_W} {sz : Nat} {av : List Value} : FrameBlind (va_Pc av (q_In D cA ws sz)) := fun a U g mk q => by
  obtain ⟨q0, q1, qP, qK, qD, qT⟩ := q
  exact ⟨q0, q1, qP, va_K.moved (u := U) (U := U.calling g mk a) (Vm.Alike.refl U.vm) qK, qD, q_Tb.moved qT (State.WarmedH.refl U)⟩
/-- an int answer r, the cells w' behind -/
def q_CI (l : Launch) (y : MethodName) (cw : List Cond) (rm : Room) (D : va_G) (cA : ClassId) (av : List Value) (w : va_W) (r : Int32) (w' : va_W) : Prop :=
  ∀ sz : Nat, Met l y cw rm (va_Pc av (q_In D cA w sz)) (va_Qi (fun (r' : Int32) (_ : Unit) => r' = r) (fun _ t => va_P D vwCl w' t.heap) (va_A w sz)) 0 0 (va_A w sz)
/-- no answer -/
def q_CV (l : Launch) (y : MethodName) (cw : List Cond) (rm : Room) (D : va_G) (cA : ClassId) (av : List Value) (w : va_W) (w' : va_W) : Prop :=
  ∀ sz : Nat, Met l y cw rm (va_Pc av (q_In D cA w sz)) (va_Qv (fun (_ : Unit) => True) (fun _ t => va_P D vwCl w' t.heap) (va_A w sz)) 0 0 (va_A w sz)
/-- what a body of such a method owes at its end -/
def q_GI (D : va_G) (r : Int32) (w' : va_W) (A : Nat → Prop) (below : List Frame) (args : Array Value) (s : State) : State → Prop := MQ below (va_Qi (fun (r' : Int32) (_ : Unit) => r' = r) (fun _ t => va_P D vwCl w' t.heap) A) args s 0 0 A
def q_GV (D : va_G) (w' : va_W) (A : Nat → Prop) (below : List Frame) (args : Array Value) (s : State) : State → Prop := MQ below (va_Qv (fun (_ : Unit) => True) (fun _ t => va_P D vwCl w' t.heap) A) args s 0 0 A
theorem q_startI {l : Launch} {y : MethodName} {cc : ByteArray} {maxL : Nat} {ret : Option FieldType} {rm : Room} {D : va_G} {cA : ClassId} {av : List Value} {w w' : va_W} {r : Int32} (own : String) (hy : plainName y.cls = true) (ho : y.cls = own) (hn : (lg_sl av).length ≤ maxL)
    (body : ∀ (p : Program) (e : Env) (s : State) (m : MethodId) (below : List Frame) (meth : Method) (c : Code) (A : Nat → Prop) (args : Array Value) (H : Heap) (locs : List Loc) (ls : Array Slot), p.tables.exec = Jvm.exec → c.code = cc → meth.sig.returnType = ret → c.maxLocals = maxL → s.vm.findClass own = some m.cls → q_Tb s → meth.locks = false →
      va_P D vwCl w H → va_K D vwCl [(cA, .int)] s → va_D A w → (∀ q : Nat, s.heap.size ≤ q → A q) → va_S A s.heap H locs → lv_has ls maxL (lv_args 0 av) →
      W p l e rm s m args below meth c H locs 0 0 (q_GI D r w' A below args s) (F0 m 0 ls [])) : q_CI l y [Cond.code y cc maxL ret] rm D cA av w r w' := by
  intro sz
  refine Met.ofW (cc := cc) (maxL := maxL) (ret := ret) hy rfl ?_
  intro p e s m args below meth c s₁ B hml hv
  obtain ⟨rfl, hsz, hP, hK, hD0, hT⟩ := hv
  subst hsz
  have hl := lv_entry av (n := maxL) hn
  rw [lg_entry_eq]
  exact body p e s m below meth c _ _ _ [] _ B.exec B.bytes B.returns hml (ho ▸ findClass_of_methodNamed B.named) hT B.notSynchronized hP hK hD0.self (fun q h => Or.inr h) va_S.rf hl
theorem q_startV {l : Launch} {y : MethodName} {cc : ByteArray} {maxL : Nat} {ret : Option FieldType} {rm : Room} {D : va_G} {cA : ClassId} {av : List Value} {w w' : va_W} (own : String) (hy : plainName y.cls = true) (ho : y.cls = own) (hn : (lg_sl av).length ≤ maxL)
    (body : ∀ (p : Program) (e : Env) (s : State) (m : MethodId) (below : List Frame) (meth : Method) (c : Code) (A : Nat → Prop) (args : Array Value) (H : Heap) (locs : List Loc) (ls : Array Slot), p.tables.exec = Jvm.exec → c.code = cc → meth.sig.returnType = ret → c.maxLocals = maxL → s.vm.findClass own = some m.cls → q_Tb s → meth.locks = false →
      va_P D vwCl w H → va_K D vwCl [(cA, .int)] s → va_D A w → (∀ q : Nat, s.heap.size ≤ q → A q) → va_S A s.heap H locs → lv_has ls maxL (lv_args 0 av) →
      W p l e rm s m args below meth c H locs 0 0 (q_GV D w' A below args s) (F0 m 0 ls [])) : q_CV l y [Cond.code y cc maxL ret] rm D cA av w w' := by
  intro sz
  refine Met.ofW (cc := cc) (maxL := maxL) (ret := ret) hy rfl ?_
  intro p e s m args below meth c s₁ B hml hv
  obtain ⟨rfl, hsz, hP, hK, hD0, hT⟩ := hv
  subst hsz
  have hl := lv_entry av (n := maxL) hn
  rw [lg_entry_eq]
  exact body p e s m below meth c _ _ _ [] _ B.exec B.bytes B.returns hml (ho ▸ findClass_of_methodNamed B.named) hT B.notSynchronized hP hK hD0.self (fun q h => Or.inr h) va_S.rf hl
/-- a truth as an int -/
def q_b (b : Bool) : Int32 := bif b then nI 1 else nI 0
theorem q_b_or (b : Bool) : q_b b = nI 0 ∨ q_b b = nI 1 := by cases b <;> simp [q_b]
theorem q_bt {b : Bool} (h : b = true) : nI 1 = q_b b := by rw [h]; rfl
theorem q_bf {b : Bool} (h : b = false) : nI 0 = q_b b := by rw [h]; rfl
theorem q_b0 {b : Bool} : q_b b = 0 ↔ b = false := by cases b <;> simp [q_b, nI] <;> decide
theorem q_b0n {b : Bool} (h : ¬ q_b b = 0) : b = true := by cases b <;> simp_all [q_b, nI]
theorem q_b0e {b : Bool} (h : q_b b = 0) : b = false := q_b0.mp h
theorem q_nar {v : Int32} (h : v = nI 0 ∨ v = nI 1) : narrow .boolean (.int v) = .int v := by rcases h with rfl | rfl <;> rfl
/-! a part of the cells is written: the others stay -/
def q_set : va_W → List Nat → va_W → va_W
  | ws, [], _ => ws
  | ws, _ :: _, [] => ws
  | ws, i :: is, q :: qs => q_set (ws.set i q) is qs
theorem q_set_get : ∀ (is : List Nat) (w1 ws : va_W) (k : Nat) (q : Nat × va_E), (q_set ws is w1)[k]? = some q → (∃ j : Nat, w1[j]? = some q ∧ is[j]? = some k) ∨ (ws[k]? = some q ∧ (is.length ≤ w1.length → k ∉ is))
  | [], w1, ws, k, q, h => Or.inr ⟨by simpa [q_set] using h, fun _ => by simp⟩
  | i :: is, [], ws, k, q, h => Or.inr ⟨by simpa [q_set] using h, fun z => by simp at z⟩
  | i :: is, q0 :: w1, ws, k, q, h => by
    rw [q_set] at h
    rcases q_set_get is w1 (ws.set i q0) k q h with ⟨j, h1, h2⟩ | ⟨h1, h2⟩
    · exact Or.inl ⟨j + 1, by simpa using h1, by simpa using h2⟩
    · by_cases hk : k = i
      · subst hk
        have hl : k < (ws.set k q0).length := (List.getElem?_eq_some_iff.mp h1).1
        rw [List.length_set] at hl
        rw [List.getElem?_set_self hl] at h1
        cases h1
        exact Or.inl ⟨0, rfl, rfl⟩
      · rw [List.getElem?_set_ne (Ne.symm hk)] at h1
        refine Or.inr ⟨h1, fun hle => ?_⟩
        have := h2 (by simpa using hle)
        simp [hk, this]
theorem q_frame {A : Nat → Prop} {D : va_G} {cl : List vw_C} {ws wc w1 : va_W} {H H1 : Heap} (is : List Nat) (hP : va_P D cl ws H) (hD : va_D A ws) (hC : is.map (fun i => ws[i]?) = wc.map some) (hadr : w1.map Prod.fst = wc.map Prod.fst)
    (hk : ∀ q : Nat, q < H.size → ¬ va_A wc H.size q → H1[q]? = H[q]?) (hP1 : va_P D cl w1 H1) : va_P D cl (q_set ws is w1) H1 ∧ va_D A (q_set ws is w1) := by
  have hlen : is.length = w1.length := by
    have h1 := congrArg List.length hC
    have h2 := congrArg List.length hadr
    simp at h1 h2
    omega
  have at' : ∀ (j k : Nat), is[j]? = some k → ∃ q, wc[j]? = some q ∧ ws[k]? = some q := by
    intro j k hj
    have h1 : (is.map (fun i => ws[i]?))[j]? = some (ws[k]?) := by rw [List.getElem?_map, hj]; rfl
    rw [hC, List.getElem?_map] at h1
    cases hq : wc[j]? with
    | none => rw [hq] at h1; cases h1
    | some q => rw [hq] at h1; exact ⟨q, rfl, (Option.some.inj h1).symm⟩
  have at2 : ∀ (j : Nat) (q : Nat × va_E), wc[j]? = some q → ∃ k, is[j]? = some k ∧ ws[k]? = some q := by
    intro j q hq
    have h1 : (is.map (fun i => ws[i]?))[j]? = some (some q) := by rw [hC, List.getElem?_map, hq]; rfl
    rw [List.getElem?_map] at h1
    cases hi : is[j]? with
    | none => rw [hi] at h1; cases h1
    | some i => rw [hi] at h1; exact ⟨i, rfl, Option.some.inj h1⟩
  have adr : ∀ (k : Nat) (q : Nat × va_E), (q_set ws is w1)[k]? = some q → ∃ q0, ws[k]? = some q0 ∧ q0.1 = q.1 := by
    intro k q h
    rcases q_set_get is w1 ws k q h with ⟨j, h1, h2⟩ | ⟨h1, -⟩
    · obtain ⟨q0, g1, g2⟩ := at' j k h2
      refine ⟨q0, g2, ?_⟩
      have e1 : (w1.map Prod.fst)[j]? = some q.1 := by rw [List.getElem?_map, h1]; rfl
      rw [hadr, List.getElem?_map, g1] at e1
      exact Option.some.inj e1
    · exact ⟨q, h1, rfl⟩
  refine ⟨fun k q h => ?_, fun i j x y hi hj hxy => ?_, fun k q h => ?_⟩
  · rcases q_set_get is w1 ws k q h with ⟨j, h1, h2⟩ | ⟨h1, h2⟩
    · exact hP1 j q h1
    · have h3 := h2 (Nat.le_of_eq hlen)
      refine (hP k q h1).kept (hk q.1 (hP k q h1).lt (fun z => ?_))
      rcases z with ⟨j, e, hj⟩ | z
      · obtain ⟨i, g1, g2⟩ := at2 j _ hj
        have := hD.1 i k _ _ g2 h1 rfl
        subst this
        exact h3 (List.mem_of_getElem? g1)
      · have := (hP k q h1).lt
        omega
  · obtain ⟨x0, h1, h2⟩ := adr i x hi
    obtain ⟨y0, h3, h4⟩ := adr j y hj
    exact hD.1 i j x0 y0 h1 h3 (h2.trans (hxy.trans h4.symm))
  · obtain ⟨q0, h1, h2⟩ := adr k q h
    rw [← h2]
    exact hD.2 k q0 h1
section QW
variable {p : Program} {l : Launch} {e : Env} {R : Room} {s : State} {m : MethodId} {args : Array Value} {below : List Frame} {meth : Method} {c : Code} {H : Heap} {locs : List Loc} {cells slots : Nat} {Q : State → Prop}
variable {cc : ByteArray} {pc nL : Nat} {ls : Array Slot} {rest : List Value} {D : va_G} {A : Nat → Prop} {a : Nat} {tys : List (ClassId × FieldType)} {ws ws1 wc w1 : va_W} {H0 : Heap} {own : String} {cA : ClassId} {lv : List (Nat × Value)} {st : List Value}
theorem q_iret {r v : Int32} {w' : va_W} (hx : p.tables.exec = Jvm.exec) (hb : c.code = cc) (hr : meth.sig.returnType = some .int) (hlk : meth.locks = false) (hv : v = r) (hP : va_P D vwCl w' H) (hS : va_S A s.heap H locs) (hdg : decode cc pc = .ok (.ireturn, 1)) :
    W p l e R s m args below meth c H locs 0 0 (q_GI D r w' A below args s) (F0 m pc ls [.int v]) :=
  W.iret hx hb hr (fun t ht hW => ⟨⟨v, (), rfl, hv, by show va_P D vwCl w' t.heap; rw [ht]; exact hP⟩, hS.F ht⟩) hS.2.2 hdg hlk
theorem q_zret {r v : Int32} {w' : va_W} (hx : p.tables.exec = Jvm.exec) (hb : c.code = cc) (hr : meth.sig.returnType = some .boolean) (hlk : meth.locks = false) (hz : v = nI 0 ∨ v = nI 1) (hv : v = r) (hP : va_P D vwCl w' H) (hS : va_S A s.heap H locs) (hdg : decode cc pc = .ok (.ireturn, 1)) :
    W p l e R s m args below meth c H locs 0 0 (q_GI D r w' A below args s) (F0 m pc ls [.int v]) :=
  W.zret hx hb hr (q_nar hz) (fun t ht hW => ⟨⟨v, (), rfl, hv, by show va_P D vwCl w' t.heap; rw [ht]; exact hP⟩, hS.F ht⟩) hS.2.2 hdg hlk
theorem q_vret {w' : va_W} (hx : p.tables.exec = Jvm.exec) (hb : c.code = cc) (hr : meth.sig.returnType = none) (hlk : meth.locks = false) (hP : va_P D vwCl w' H) (hS : va_S A s.heap H locs) (hdg : decode cc pc = .ok (.return_, 1)) :
    W p l e R s m args below meth c H locs 0 0 (q_GV D w' A below args s) (F0 m pc ls []) :=
  W.vret hx hb hr (fun t ht hW => ⟨⟨(), rfl, trivial, by show va_P D vwCl w' t.heap; rw [ht]; exact hP⟩, hS.F ht⟩) hS.2.2 hdg hlk
/-- the top of the stack under another name -/
theorem q_top {x y : Int32} (h : x = y) (k : W p l e R s m args below meth c H locs cells slots Q (F0 m pc ls (.int y :: rest))) : W p l e R s m args below meth c H locs cells slots Q (F0 m pc ls (.int x :: rest)) := h ▸ k
theorem q_get {C : String} {T : u_T} {N ci index : Nat} (hx : p.tables.exec = Jvm.exec) (hb : c.code = cc) (hT : q_Tb s) (hown : s.vm.findClass own = some m.cls) (hK : va_K D vwCl tys s) (hP : va_P D vwCl ws H) (kw : ∀ w ∈ u_ws C T N, q_ok w) (q0 : Nat) {fs : List Value} (he : ws[q0]? = some (a, .inr (ci, fs))) (hc : vwCl[ci]? = some (C, T, N)) (k : Nat) (hk : k < N) (kf : q_ok (.fieldLink own index C (T k).2.1 (T k).2.2.1)) (hsame : (T k).1 = C) {v : Value} (hv : fs[k]? = some v) (hdg : decode cc pc = .ok (.getfield index, 3))
    (kk : W p l e R s m args below meth c H locs cells slots Q (F0 m (pc + 3) ls (v :: rest))) : W p l e R s m args below meth c H locs cells slots Q (F0 m pc ls (.ref a :: rest)) :=
  va_get hx hb (Ts := u_ws C T N) (fun w hw => hT.use (kw w hw) args) (fun w h => h) hown hK hP q0 he hc k hk (hT.use kf args) (fun x h9 => by rw [hsame] at h9; exact h9) hv hdg kk
theorem q_put {C : String} {T : u_T} {N ci index : Nat} {ty0 : Nat → FieldType} (hx : p.tables.exec = Jvm.exec) (hb : c.code = cc) (hT : q_Tb s) (hown : s.vm.findClass own = some m.cls) (hK : va_K D vwCl tys s) (hP : va_P D vwCl ws H) (hD : va_D A ws) (hS : va_S A H0 H locs) (kw : ∀ w ∈ u_ws C T N, q_ok w) (hty : ∀ k, k < N → parseFieldDescriptor (T k).2.2.1 = some (ty0 k)) (hnm : ∀ a, a < N → ∀ b, b < N → a ≠ b → (T a).2.1 ≠ (T b).2.1) (q0 : Nat) {fs : List Value} (he : ws[q0]? = some (a, .inr (ci, fs))) (hc : vwCl[ci]? = some (C, T, N)) (k : Nat) (hk : k < N) (kf : q_ok (.fieldLink own index C (T k).2.1 (T k).2.2.1)) (hsame : (T k).1 = C) (hfin : (T k).2.2.2 = false) {ty : FieldType} {v : Value} (hd : parseFieldDescriptor (T k).2.2.1 = some ty) (hn : narrow ty v = v) (hfit : fits ty v = true) (hl : k < fs.length) (hset : ws.set q0 (a, .inr (ci, fs.set k v)) = ws1)
    (hdg : decode cc pc = .ok (.putfield index, 3)) (kk : ∀ (H1 : Heap) (locs1 : List Loc), va_P D vwCl ws1 H1 → va_D A ws1 → va_S A H0 H1 locs1 → W p l e R s m args below meth c H1 locs1 cells slots Q (F0 m (pc + 3) ls rest)) : W p l e R s m args below meth c H locs cells slots Q (F0 m pc ls (v :: .ref a :: rest)) := by
  subst hset
  exact va_put hx hb (Ts := u_ws C T N) (fun w hw => hT.use (kw w hw) args) (fun w h => h) ty0 hty hnm hown hK hP hD hS q0 he hc k hk (hT.use kf args) (fun x h9 => by rw [hsame] at h9; exact h9) hfin hd hn hfit hl hdg kk
/-- an element by its number -/
theorem q_iald (hx : p.tables.exec = Jvm.exec) (hb : c.code = cc) (hK : va_K D vwCl tys s) (hP : va_P D vwCl ws H) (q0 t0 : Nat) {n : Nat} {f : Nat → Int32} (ha : ws[q0]? = some (a, .inl (cA, n, .inl f))) (ht : tys[t0]? = some (cA, .int)) (k : Nat) {i : Int32} (hi : i = nI k) (hk : k < n) (hn : n < 2147483648) (hdg : decode cc pc = .ok (.iaload, 1))
    (kk : W p l e R s m args below meth c H locs cells slots Q (F0 m (pc + 1) ls (.int (f k) :: rest))) : W p l e R s m args below meth c H locs cells slots Q (F0 m pc ls (.int i :: .ref a :: rest)) := by
  subst hi
  refine va_iald hx hb hK hP q0 t0 ha ht (vp_in_nI hk hn) hdg ?_
  rw [nI_clamp (Nat.lt_trans hk hn)]
  exact kk
theorem q_iast (hx : p.tables.exec = Jvm.exec) (hb : c.code = cc) (hK : va_K D vwCl tys s) (hP : va_P D vwCl ws H) (hD : va_D A ws) (hS : va_S A H0 H locs) (q0 t0 : Nat) {n : Nat} {f : Nat → Int32} (ha : ws[q0]? = some (a, .inl (cA, n, .inl f))) (ht : tys[t0]? = some (cA, .int)) (k : Nat) {i x : Int32} (hi : i = nI k) (hk : k < n) (hn : n < 2147483648) (hset : ws.set q0 (a, .inl (cA, n, .inl (upd f k x))) = ws1) (hdg : decode cc pc = .ok (.iastore, 1))
    (kk : ∀ (H1 : Heap) (locs1 : List Loc), va_P D vwCl ws1 H1 → va_D A ws1 → va_S A H0 H1 locs1 → W p l e R s m args below meth c H1 locs1 cells slots Q (F0 m (pc + 1) ls rest)) : W p l e R s m args below meth c H locs cells slots Q (F0 m pc ls (.int x :: .int i :: .ref a :: rest)) := by
  subst hi
  subst hset
  refine va_iast hx hb hK hP hD hS q0 t0 ha ht (vp_in_nI hk hn) hdg (fun H1 locs1 hP1 hD1 hS1 => ?_)
  rw [nI_clamp (Nat.lt_trans hk hn)] at hP1 hD1
  exact kk H1 locs1 hP1 hD1 hS1
theorem q_cb {y : MethodName} {bytes : ByteArray} {maxL n index : Nat} {ret : Option FieldType} {rm : Room} (hT : q_Tb s) (kc : q_ok (.code y bytes maxL ret)) (ki : q_ok (.initialized y.cls)) (hd : y.cls ≠ "java/lang/invoke/MethodHandle" ∧ y.cls ≠ "java/lang/invoke/VarHandle") (hp : (parseMethodDescriptor y.desc).map (fun d => d.parameters.length) = some n) (kl : q_ok (.methodLink own index y)) {mc ms : Nat} (hrc : rm.cells = mc) (hrs : rm.slots = ms) (hR : rm.frames + 1 ≤ R.frames ∧ 8 + (maxL + 11) + rm.locals ≤ R.locals) :
    CallB R s args own index y bytes maxL ret [Cond.code y bytes maxL ret] rm mc ms n := by
  refine ⟨hrc, hrs, hR.1, hR.2, fun w hw a' U hW => ?_, List.mem_cons_self, hT.use kc args, hT.use ki args, hd, fun sig h => ?_, hT.use kl args⟩
  · rw [List.mem_singleton.mp hw]
    exact (hT.moved hW).use kc a'
  · rw [h] at hp
    exact (Option.some.inj hp).symm
theorem q_pc {av : List Value} {w : va_W} (hT : q_Tb s) (hKc : va_K D vwCl [(cA, .int)] s) (hPc : va_P D vwCl w H) (hDc : va_D A w) (U : State) (hU : U.heap = H) (hW : s.WarmedH U.vm) : va_Pc av (q_In D cA w H.size) av.toArray U :=
  ⟨rfl, by rw [hU], by rw [hU]; exact hPc, va_K.moved hW.alike hKc, hDc.weaken (fun _ _ _ _ => trivial), hT.moved hW⟩
theorem q_part {cl : List vw_C} (hP : va_P D cl ws H) (is : List Nat) (hC : is.map (fun i => ws[i]?) = wc.map some) : va_P D cl wc H := fun k q hq => by
  have h1 : (is.map (fun i => ws[i]?))[k]? = some (some q) := by rw [hC, List.getElem?_map, hq]; rfl
  rw [List.getElem?_map] at h1
  cases hi : is[k]? with
  | none => rw [hi] at h1; cases h1
  | some i => rw [hi] at h1; exact hP i q (Option.some.inj h1)
theorem q_partD (hD : va_D A ws) (is : List Nat) (hn : va_nd is = true) (hC : is.map (fun i => ws[i]?) = wc.map some) : va_D A wc := hD.sub is hn hC
/-- a virtual call with an int answer -/
theorem q_callI {y : MethodName} {bytes : ByteArray} {maxL n index ci q0 b : Nat} {ret : Option FieldType} {rm : Room} {As : List Value} {r : Int32} {fs : List Value} {T : u_T} {N : Nat} {C : String}
    (hx : p.tables.exec = Jvm.exec) (hb : c.code = cc) (hml : c.maxLocals = nL) (hown : s.vm.findClass own = some m.cls) (hT : q_Tb s) (hK : va_K D vwCl [(cA, .int)] s) (hP : va_P D vwCl ws H) (hD : va_D A ws) (hS : va_S A H0 H locs) (hA : ∀ q : Nat, H0.size ≤ q → A q)
    (hM : q_CI l y [Cond.code y bytes maxL ret] rm D cA (.ref b :: As) wc r w1) (km : q_okM y bytes maxL ret n) (kl : q_ok (.methodLink own index y)) (hwc : wc[q0]? = some (b, .inr (ci, fs))) (hc : vwCl[ci]? = some (C, T, N)) (hyc : y.cls = C)
    (is : List Nat) (hn : va_nd is = true) (hC : is.map (fun i => ws[i]?) = wc.map some) (hset : q_set ws is w1 = ws1) (hadr : w1.map Prod.fst = wc.map Prod.fst) (hl : lv_has ls nL lv) (hlen : As.length = n) (hst : st = As.reverse ++ .ref b :: rest) (hw : (rest.map fun v => v.category).sum ≤ 8)
    (hR : (rm.cells = 0 ∧ rm.slots = 0) ∧ rm.frames + 1 ≤ R.frames ∧ 8 + (maxL + 11) + rm.locals ≤ R.locals) (hf : cells ≤ R.cells ∧ slots ≤ R.slots) (hdg : decode cc pc = .ok (.invokevirtual index, 3))
    (kk : ∀ (H1 : Heap) (locs1 : List Loc), va_P D vwCl ws1 H1 → va_D A ws1 → va_S A H0 H1 locs1 → W p l e R s m args below meth c H1 locs1 cells slots Q (F0 m (pc + 3) ls (.int r :: rest))) : W p l e R s m args below meth c H locs cells slots Q (F0 m pc ls st) := by
  subst hset
  obtain ⟨k1, k2, k3, k4, k5, k6⟩ := km
  have hPc : va_P D vwCl wc H := q_part hP is hC
  have hDc : va_D A wc := q_partD hD is hn hC
  have hF := va_free hD hS hA is hC
  refine va_calli (va_runV (As := As) (rest := rest) (Ts := []) ⟨hx, hb, hml, hown, fun _ h => absurd h List.not_mem_nil⟩ (hM H.size) (C := y.cls) ⟨q_cb hT k1 k2 k5 k6 kl hR.1.1 hR.1.2 hR.2, hT.use k3 args, hT.use k4 args⟩ ⟨q_blind, ?_, fun U hU hW => q_pc hT hK hPc hDc U hU hW⟩ rfl hlen hl.1 hst (lv_room hw) hdg hf) hS (fun q _ h => hF q h) hF (fun r' u t H1 locs1 ht hvm hpost hB hz1 hk1 hS1 => ?_)
  · obtain ⟨cell, g1, g2, g3⟩ := va_recv hK hPc hc hwc
    exact ⟨cell, g1, g2, by rw [hyc]; exact g3⟩
  · subst hpost
    have hB' : va_P D vwCl w1 H1 := ht ▸ hB
    obtain ⟨f1, f2⟩ := q_frame is hP hD hC hadr hk1 hB'
    exact kk H1 locs1 f1 f2 hS1
theorem q_callV {y : MethodName} {bytes : ByteArray} {maxL n index ci q0 b : Nat} {ret : Option FieldType} {rm : Room} {As : List Value} {fs : List Value} {T : u_T} {N : Nat} {C : String}
    (hx : p.tables.exec = Jvm.exec) (hb : c.code = cc) (hml : c.maxLocals = nL) (hown : s.vm.findClass own = some m.cls) (hT : q_Tb s) (hK : va_K D vwCl [(cA, .int)] s) (hP : va_P D vwCl ws H) (hD : va_D A ws) (hS : va_S A H0 H locs) (hA : ∀ q : Nat, H0.size ≤ q → A q)
    (hM : q_CV l y [Cond.code y bytes maxL ret] rm D cA (.ref b :: As) wc w1) (km : q_okM y bytes maxL ret n) (kl : q_ok (.methodLink own index y)) (hwc : wc[q0]? = some (b, .inr (ci, fs))) (hc : vwCl[ci]? = some (C, T, N)) (hyc : y.cls = C)
    (is : List Nat) (hn : va_nd is = true) (hC : is.map (fun i => ws[i]?) = wc.map some) (hset : q_set ws is w1 = ws1) (hadr : w1.map Prod.fst = wc.map Prod.fst) (hl : lv_has ls nL lv) (hlen : As.length = n) (hst : st = As.reverse ++ .ref b :: rest) (hw : (rest.map fun v => v.category).sum ≤ 8)
    (hR : (rm.cells = 0 ∧ rm.slots = 0) ∧ rm.frames + 1 ≤ R.frames ∧ 8 + (maxL + 11) + rm.locals ≤ R.locals) (hf : cells ≤ R.cells ∧ slots ≤ R.slots) (hdg : decode cc pc = .ok (.invokevirtual index, 3))
    (kk : ∀ (H1 : Heap) (locs1 : List Loc), va_P D vwCl ws1 H1 → va_D A ws1 → va_S A H0 H1 locs1 → W p l e R s m args below meth c H1 locs1 cells slots Q (F0 m (pc + 3) ls rest)) : W p l e R s m args below meth c H locs cells slots Q (F0 m pc ls st) := by
  subst hset
  obtain ⟨k1, k2, k3, k4, k5, k6⟩ := km
  have hPc : va_P D vwCl wc H := q_part hP is hC
  have hDc : va_D A wc := q_partD hD is hn hC
  have hF := va_free hD hS hA is hC
  refine va_callv (va_runV (As := As) (rest := rest) (Ts := []) ⟨hx, hb, hml, hown, fun _ h => absurd h List.not_mem_nil⟩ (hM H.size) (C := y.cls) ⟨q_cb hT k1 k2 k5 k6 kl hR.1.1 hR.1.2 hR.2, hT.use k3 args, hT.use k4 args⟩ ⟨q_blind, ?_, fun U hU hW => q_pc hT hK hPc hDc U hU hW⟩ rfl hlen hl.1 hst (lv_room hw) hdg hf) hS (fun q _ h => hF q h) hF (fun u t H1 locs1 ht hvm hpost hB hz1 hk1 hS1 => ?_)
  · obtain ⟨cell, g1, g2, g3⟩ := va_recv hK hPc hc hwc
    exact ⟨cell, g1, g2, by rw [hyc]; exact g3⟩
  · have hB' : va_P D vwCl w1 H1 := ht ▸ hB
    obtain ⟨f1, f2⟩ := q_frame is hP hD hC hadr hk1 hB'
    exact kk H1 locs1 f1 f2 hS1
/-- a static call -/
theorem q_callSI {y : MethodName} {bytes : ByteArray} {maxL n index : Nat} {ret : Option FieldType} {rm : Room} {As : List Value} {r : Int32}
    (hx : p.tables.exec = Jvm.exec) (hb : c.code = cc) (hml : c.maxLocals = nL) (hown : s.vm.findClass own = some m.cls) (hT : q_Tb s) (hK : va_K D vwCl [(cA, .int)] s) (hP : va_P D vwCl ws H) (hD : va_D A ws) (hS : va_S A H0 H locs) (hA : ∀ q : Nat, H0.size ≤ q → A q)
    (hM : q_CI l y [Cond.code y bytes maxL ret] rm D cA As [] r []) (km : q_okS y bytes maxL ret n) (kl : q_ok (.methodLink own index y)) (hl : lv_has ls nL lv) (hlen : As.length = n) (hst : st = As.reverse ++ rest) (hw : (rest.map fun v => v.category).sum ≤ 8)
    (hR : (rm.cells = 0 ∧ rm.slots = 0) ∧ rm.frames + 1 ≤ R.frames ∧ 8 + (maxL + 11) + rm.locals ≤ R.locals) (hf : cells ≤ R.cells ∧ slots ≤ R.slots) (hdg : decode cc pc = .ok (.invokestatic index, 3))
    (kk : ∀ (H1 : Heap) (locs1 : List Loc), va_P D vwCl ws H1 → va_D A ws → va_S A H0 H1 locs1 → W p l e R s m args below meth c H1 locs1 cells slots Q (F0 m (pc + 3) ls (.int r :: rest))) : W p l e R s m args below meth c H locs cells slots Q (F0 m pc ls st) := by
  obtain ⟨k1, k2, k3, k5, k6⟩ := km
  have hPc : va_P D vwCl [] H := fun k q h => by simp at h
  have hDc : va_D A [] := ⟨fun i j p q h => by simp at h, fun k q h => by simp at h⟩
  have hF : ∀ q, va_A [] H.size q → A q := va_free (wc := []) hD hS hA [] rfl
  refine va_calli (va_runS (As := As) (rest := rest) (Ts := []) ⟨hx, hb, hml, hown, fun _ h => absurd h List.not_mem_nil⟩ (hM H.size) ⟨q_cb hT k1 k2 k5 k6 kl hR.1.1 hR.1.2 hR.2, hT.use k3 args⟩ ⟨q_blind, fun U hU hW => q_pc hT hK hPc hDc U hU hW⟩ rfl hlen hl.1 hst (lv_room hw) hdg hf) hS (fun q _ h => hF q h) hF (fun r' u t H1 locs1 ht hvm hpost hB hz1 hk1 hS1 => ?_)
  subst hpost
  obtain ⟨f1, f2⟩ := q_frame [] hP hD (wc := []) (w1 := []) rfl rfl hk1 (fun k q h => by simp at h)
  exact kk H1 locs1 f1 f2 hS1
theorem q_callSV {y : MethodName} {bytes : ByteArray} {maxL n index : Nat} {ret : Option FieldType} {rm : Room} {As : List Value}
    (hx : p.tables.exec = Jvm.exec) (hb : c.code = cc) (hml : c.maxLocals = nL) (hown : s.vm.findClass own = some m.cls) (hT : q_Tb s) (hK : va_K D vwCl [(cA, .int)] s) (hP : va_P D vwCl ws H) (hD : va_D A ws) (hS : va_S A H0 H locs) (hA : ∀ q : Nat, H0.size ≤ q → A q)
    (hM : q_CV l y [Cond.code y bytes maxL ret] rm D cA As [] []) (km : q_okS y bytes maxL ret n) (kl : q_ok (.methodLink own index y)) (hl : lv_has ls nL lv) (hlen : As.length = n) (hst : st = As.reverse ++ rest) (hw : (rest.map fun v => v.category).sum ≤ 8)
    (hR : (rm.cells = 0 ∧ rm.slots = 0) ∧ rm.frames + 1 ≤ R.frames ∧ 8 + (maxL + 11) + rm.locals ≤ R.locals) (hf : cells ≤ R.cells ∧ slots ≤ R.slots) (hdg : decode cc pc = .ok (.invokestatic index, 3))
    (kk : ∀ (H1 : Heap) (locs1 : List Loc), va_P D vwCl ws H1 → va_D A ws → va_S A H0 H1 locs1 → W p l e R s m args below meth c H1 locs1 cells slots Q (F0 m (pc + 3) ls rest)) : W p l e R s m args below meth c H locs cells slots Q (F0 m pc ls st) := by
  obtain ⟨k1, k2, k3, k5, k6⟩ := km
  have hPc : va_P D vwCl [] H := fun k q h => by simp at h
  have hDc : va_D A [] := ⟨fun i j p q h => by simp at h, fun k q h => by simp at h⟩
  have hF : ∀ q, va_A [] H.size q → A q := va_free (wc := []) hD hS hA [] rfl
  refine va_callv (va_runS (As := As) (rest := rest) (Ts := []) ⟨hx, hb, hml, hown, fun _ h => absurd h List.not_mem_nil⟩ (hM H.size) ⟨q_cb hT k1 k2 k5 k6 kl hR.1.1 hR.1.2 hR.2, hT.use k3 args⟩ ⟨q_blind, fun U hU hW => q_pc hT hK hPc hDc U hU hW⟩ rfl hlen hl.1 hst (lv_room hw) hdg hf) hS (fun q _ h => hF q h) hF (fun u t H1 locs1 ht hvm hpost hB hz1 hk1 hS1 => ?_)
  obtain ⟨f1, f2⟩ := q_frame [] hP hD (wc := []) (w1 := []) rfl rfl hk1 (fun k q h => by simp at h)
  exact kk H1 locs1 f1 f2 hS1
theorem q_max {index : Nat} (hx : p.tables.exec = Jvm.exec) (hb : c.code = cc) (hml : c.maxLocals = nL) (hown : s.vm.findClass own = some m.cls) (hT : q_Tb s) (hl : lv_has ls nL lv) (kl : q_ok (.methodLink own index Lib.Math.max.name)) (hframes : 1 ≤ R.frames) (hlocals : (rest.map fun v => v.category).sum + 13 ≤ R.locals) (hc : cells ≤ R.cells ∧ slots ≤ R.slots) {x y : Int32} (hdg : decode cc pc = .ok (.invokestatic index, 3))
    (kk : W p l e R s m args below meth c H locs cells slots Q (F0 m (pc + 3) ls (.int (if x < y then y else x) :: rest))) : W p l e R s m args below meth c H locs cells slots Q (F0 m pc ls (.int y :: .int x :: rest)) :=
  va_mmax hx hb (hml.trans hl.1.symm) hown (hT.use kl args) (hT.use k_Lib_Math_max_name.2.2.1 args) (hT.use k_Lib_Math_max_name.2.1 args) (hT.use k_Lib_Math_max_name.1 args) hframes hlocals hc.1 hc.2 hdg kk
theorem q_min {index : Nat} (hx : p.tables.exec = Jvm.exec) (hb : c.code = cc) (hml : c.maxLocals = nL) (hown : s.vm.findClass own = some m.cls) (hT : q_Tb s) (hl : lv_has ls nL lv) (kl : q_ok (.methodLink own index Lib.Math.min.name)) (hframes : 1 ≤ R.frames) (hlocals : (rest.map fun v => v.category).sum + 13 ≤ R.locals) (hc : cells ≤ R.cells ∧ slots ≤ R.slots) {x y : Int32} (hdg : decode cc pc = .ok (.invokestatic index, 3))
    (kk : W p l e R s m args below meth c H locs cells slots Q (F0 m (pc + 3) ls (.int (if y < x then y else x) :: rest))) : W p l e R s m args below meth c H locs cells slots Q (F0 m pc ls (.int y :: .int x :: rest)) := by
  refine va_mmin hx hb (hml.trans hl.1.symm) hown (hT.use kl args) (hT.use k_Lib_Math_min_name.2.2.1 args) (hT.use k_Lib_Math_min_name.2.1 args) (hT.use k_Lib_Math_min_name.1 args) hframes hlocals hc.1 hc.2 hdg ?_
  exact kk
end QW
theorem lv_cast {ls : Array Slot} {nL : Nat} {l l' : List (Nat × Value)} (h : lv_has ls nL l) (e : l = l') : lv_has ls nL l' := e ▸ h
theorem va_cast' {D : va_G} {cl : List vw_C} {w w' : va_W} {H : Heap} (h : va_P D cl w H) (e : w = w') : va_P D cl w' H := e ▸ h
theorem va_castD {A : Nat → Prop} {w w' : va_W} (h : va_D A w) (e : w = w') : va_D A w' := e ▸ h
