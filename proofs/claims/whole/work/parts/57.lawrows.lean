/-! rows of the law's body -/
theorem q_rot {D : va_G} {w : va_W} {x : Nat × va_E} {H : Heap} (h : va_P D vwCl (w ++ [x]) H) : va_P D vwCl (x :: w) H := fun k q hq => by
  match k, hq with
  | 0, hq => cases hq; exact h w.length x (by simp)
  | k + 1, hq => 
    have hq : w[k]? = some q := hq
    exact h k q (by rw [List.getElem?_append_left (List.getElem?_eq_some_iff.mp hq).1]; exact hq)
theorem q_rotD {A : Nat → Prop} {w : va_W} {x : Nat × va_E} (h : va_D A (w ++ [x])) : va_D A (x :: w) := by
  have key : ∀ (k : Nat) (q : Nat × va_E), (x :: w)[k]? = some q → ∃ j, (w ++ [x])[j]? = some q ∧ ((k = 0 ∧ j = w.length) ∨ (k = j + 1 ∧ j < w.length)) := fun k q hq => by
    match k, hq with
    | 0, hq => cases hq; exact ⟨w.length, by simp, Or.inl ⟨rfl, rfl⟩⟩
    | k + 1, hq =>
      have hq : w[k]? = some q := hq
      have hl := (List.getElem?_eq_some_iff.mp hq).1
      exact ⟨k, by rw [List.getElem?_append_left hl]; exact hq, Or.inr ⟨rfl, hl⟩⟩
  refine ⟨fun i j p q hi hj e => ?_, fun k q hq => ?_⟩
  · obtain ⟨a, a1, a2⟩ := key i p hi
    obtain ⟨c, c1, c2⟩ := key j q hj
    have := h.1 a c p q a1 c1 e
    omega
  · obtain ⟨a, a1, -⟩ := key k q hq
    exact h.2 a q a1
/-- what stays the same through the law -/
def lw_C (p : Program) (l : Launch) (s : State) (m : MethodId) (meth : Method) (c : Code) (b L : Nat) (xs : Nat → Int32) (D : va_G) (cA cL : ClassId) : Prop :=
  (p.tables.exec = Jvm.exec) ∧ (c.code = cL_law) ∧ (c.maxLocals = 7) ∧ (s.vm.findClass RL = some m.cls) ∧ (q_Tb s) ∧ (va_K D vwCl [(cA, .int), (cL, .long)] s) ∧ (va_X b L xs s s.heap) ∧ (b < s.heap.size) ∧ (q_Xt s) ∧ (q_Nc s) ∧ (q_Zz (fun q : Nat => s.heap.size ≤ q) s s.heap) ∧ (l.stackTraces = false) ∧ (L ≤ 2560)
theorem lw_C.hx {p : Program} {l : Launch} {s : State} {m : MethodId} {meth : Method} {c : Code} {b L : Nat} {xs : Nat → Int32} {D : va_G} {cA cL : ClassId} (C : lw_C p l s m meth c b L xs D cA cL) : p.tables.exec = Jvm.exec := C.1
theorem lw_C.hb {p : Program} {l : Launch} {s : State} {m : MethodId} {meth : Method} {c : Code} {b L : Nat} {xs : Nat → Int32} {D : va_G} {cA cL : ClassId} (C : lw_C p l s m meth c b L xs D cA cL) : c.code = cL_law := C.2.1
theorem lw_C.hml {p : Program} {l : Launch} {s : State} {m : MethodId} {meth : Method} {c : Code} {b L : Nat} {xs : Nat → Int32} {D : va_G} {cA cL : ClassId} (C : lw_C p l s m meth c b L xs D cA cL) : c.maxLocals = 7 := C.2.2.1
theorem lw_C.hown {p : Program} {l : Launch} {s : State} {m : MethodId} {meth : Method} {c : Code} {b L : Nat} {xs : Nat → Int32} {D : va_G} {cA cL : ClassId} (C : lw_C p l s m meth c b L xs D cA cL) : s.vm.findClass RL = some m.cls := C.2.2.2.1
theorem lw_C.hT {p : Program} {l : Launch} {s : State} {m : MethodId} {meth : Method} {c : Code} {b L : Nat} {xs : Nat → Int32} {D : va_G} {cA cL : ClassId} (C : lw_C p l s m meth c b L xs D cA cL) : q_Tb s := C.2.2.2.2.1
theorem lw_C.hK {p : Program} {l : Launch} {s : State} {m : MethodId} {meth : Method} {c : Code} {b L : Nat} {xs : Nat → Int32} {D : va_G} {cA cL : ClassId} (C : lw_C p l s m meth c b L xs D cA cL) : va_K D vwCl [(cA, .int), (cL, .long)] s := C.2.2.2.2.2.1
theorem lw_C.hS {p : Program} {l : Launch} {s : State} {m : MethodId} {meth : Method} {c : Code} {b L : Nat} {xs : Nat → Int32} {D : va_G} {cA cL : ClassId} (C : lw_C p l s m meth c b L xs D cA cL) : va_X b L xs s s.heap := C.2.2.2.2.2.2.1
theorem lw_C.hbl {p : Program} {l : Launch} {s : State} {m : MethodId} {meth : Method} {c : Code} {b L : Nat} {xs : Nat → Int32} {D : va_G} {cA cL : ClassId} (C : lw_C p l s m meth c b L xs D cA cL) : b < s.heap.size := C.2.2.2.2.2.2.2.1
theorem lw_C.hX {p : Program} {l : Launch} {s : State} {m : MethodId} {meth : Method} {c : Code} {b L : Nat} {xs : Nat → Int32} {D : va_G} {cA cL : ClassId} (C : lw_C p l s m meth c b L xs D cA cL) : q_Xt s := C.2.2.2.2.2.2.2.2.1
theorem lw_C.hN {p : Program} {l : Launch} {s : State} {m : MethodId} {meth : Method} {c : Code} {b L : Nat} {xs : Nat → Int32} {D : va_G} {cA cL : ClassId} (C : lw_C p l s m meth c b L xs D cA cL) : q_Nc s := C.2.2.2.2.2.2.2.2.2.1
theorem lw_C.hZ {p : Program} {l : Launch} {s : State} {m : MethodId} {meth : Method} {c : Code} {b L : Nat} {xs : Nat → Int32} {D : va_G} {cA cL : ClassId} (C : lw_C p l s m meth c b L xs D cA cL) : q_Zz (fun q : Nat => s.heap.size ≤ q) s s.heap := C.2.2.2.2.2.2.2.2.2.2.1
theorem lw_C.htr {p : Program} {l : Launch} {s : State} {m : MethodId} {meth : Method} {c : Code} {b L : Nat} {xs : Nat → Int32} {D : va_G} {cA cL : ClassId} (C : lw_C p l s m meth c b L xs D cA cL) : l.stackTraces = false := C.2.2.2.2.2.2.2.2.2.2.2.1
theorem lw_C.hL {p : Program} {l : Launch} {s : State} {m : MethodId} {meth : Method} {c : Code} {b L : Nat} {xs : Nat → Int32} {D : va_G} {cA cL : ClassId} (C : lw_C p l s m meth c b L xs D cA cL) : L ≤ 2560 := C.2.2.2.2.2.2.2.2.2.2.2.2
abbrev lwA (s : State) : Nat → Prop := fun q => s.heap.size ≤ q
abbrev lwW (cA cL : ClassId) (ad ad' : Nat → Nat) (o : Nat) (f : Nat → Int64) (g : Nat → Nat → Int32) (z : Nat → Nat) (g' : Nat → Nat → Int32) (z' : Nat → Nat) : va_W := ((o, .inl (cL, 1, .inr (.inl f))) :: rlW cA ad g z) ++ mdW cA ad' g' z'
section LR
variable {p : Program} {l : Launch} {e : Env} {R : Room} {s : State} {m : MethodId} {args : Array Value} {below : List Frame} {meth : Method} {c : Code} {H : Heap} {locs : List Loc} {cells slots : Nat} {Q : State → Prop}
variable {pc : Nat} {ls : Array Slot} {rest : List Value} {D : va_G} {A : Nat → Prop} {ws w1 wc ws1 : va_W} {H0 : Heap} {cA cL : ClassId} {lv : List (Nat × Value)} {st : List Value} {b L : Nat} {xs : Nat → Int32} {ad ad' : Nat → Nat} {o i : Nat} {f : Nat → Int64} {g g' : Nat → Nat → Int32} {z z' : Nat → Nat}
theorem q_scr (C : lw_C p l s m meth c b L xs D cA cL) (k : Nat) (hi : i + 4 < L) (hk : k ≤ 4) (hS : va_S (lwA s) s.heap H locs) {v1 v2 v3 : Value} {lt : List (Nat × Value)} (hl : lv_has ls 7 ((0, .ref b) :: (1, v1) :: (2, v2) :: (3, v3) :: (4, .int (nI i)) :: lt))
    (d0 : decode cL_law pc = .ok (.aload_n 0, 1)) (d1 : decode cL_law (pc + 1) = .ok (.iload 4, 2)) (d2 : decode cL_law (pc + 3) = .ok (.iconst k, 1)) (d3 : decode cL_law (pc + 4) = .ok (.iadd, 1)) (d4 : decode cL_law (pc + 5) = .ok (.iaload, 1))
    (kk : W p l e R s m args below meth c H locs cells slots Q (F0 m (pc + 6) ls (.int (xs (i + k)) :: rest))) : W p l e R s m args below meth c H locs cells slots Q (F0 m pc ls rest) := by
  have hL := C.hL
  refine lv_aload_n C.hx C.hb d0 rfl (lv_at hl 0 rfl) ?_
  refine lv_iload C.hx C.hb d1 (lv_at hl 4 rfl) ?_
  refine lv_iconst (v := nI k) C.hx C.hb d2 rfl ?_
  refine lv_iadd C.hx C.hb d3 ?_
  rw [show nI i + nI k = nI (i + k) from (Int32.ofNat_add i k).symm]
  refine va_sld C.hx C.hb C.hS C.hbl (Nat.not_le.mpr C.hbl) hS (vp_in_nI (by omega) (by omega)) d4 ?_
  rw [nI_clamp (by omega)]
  exact kk
theorem q_bool (C : lw_C p l s m meth c b L xs D cA cL) {x : Int32} (d0 : decode cL_law pc = .ok (.ifCond .eq 7, 3)) (d1 : decode cL_law (pc + 3) = .ok (.iconst 1, 1)) (d2 : decode cL_law (pc + 4) = .ok (.goto 4, 3)) (d3 : decode cL_law (pc + 7) = .ok (.iconst 0, 1))
    (kk : W p l e R s m args below meth c H locs cells slots Q (F0 m (pc + 8) ls (.int (q_b (!decide (x = 0))) :: rest))) : W p l e R s m args below meth c H locs cells slots Q (F0 m pc ls (.int x :: rest)) := by
  refine lv_if_eq (tgt := pc + 7) C.hx C.hb d0 (by omega) (fun h => ?_) (fun h => ?_)
  · refine lv_iconst (v := nI 0) C.hx C.hb d3 rfl ?_
    rw [decide_eq_true h] at kk
    exact kk
  · refine lv_iconst (v := nI 1) C.hx C.hb d1 rfl ?_
    refine lv_goto (tgt := pc + 8) C.hx C.hb d2 (by omega) ?_
    rw [decide_eq_false h] at kk
    exact kk
/-- a static call of one of the law's own methods -/
theorem q_callL {y : MethodName} {bytes : ByteArray} {maxL n index : Nat} {hh : List (Nat × Nat × Nat × Nat)} {As : List Value} {r : Int32} (C : lw_C p l s m meth c b L xs D cA cL)
    (hP : va_P D vwCl ws H) (hD : va_D (lwA s) ws) (hS : va_S (lwA s) s.heap H locs)
    (hM : q_CL l y [Cond.codeWith y bytes maxL (some .int) hh] rm_L D cA cL As wc r w1) (km : q_okW y bytes maxL (some .int) hh n) (kl : q_ok (.methodLink RL index y))
    (pre suf : va_W) (h1 : ws = pre ++ (wc ++ suf)) (h2 : pre ++ (w1 ++ suf) = ws1) (hadr : w1.map Prod.fst = wc.map Prod.fst) (hl : lv_has ls 7 lv) (hlen : As.length = n) (hst : st = As.reverse ++ rest) (hw : (rest.map fun v => v.category).sum ≤ 8)
    (hR : rm_L.frames + 1 ≤ R.frames ∧ 8 + (maxL + 11) + rm_L.locals ≤ R.locals) (hf : cells + 1 ≤ R.cells ∧ slots + 6 ≤ R.slots) (hdg : decode cL_law pc = .ok (.invokestatic index, 3))
    (kk : ∀ (H1 : Heap) (locs1 : List Loc), va_P D vwCl ws1 H1 → va_D (lwA s) ws1 → va_S (lwA s) s.heap H1 locs1 → W p l e R s m args below meth c H1 locs1 (cells + 1) (slots + 6) Q (F0 m (pc + 3) ls (.int r :: rest))) : W p l e R s m args below meth c H locs cells slots Q (F0 m pc ls st) := by
  subst h1
  subst h2
  obtain ⟨k1, k2, k3, k4, k5⟩ := km
  have hPc : va_P D vwCl wc H := q_mid hP
  have hDc : va_D (lwA s) wc := q_midD hD
  have hF := q_freeW hDc hS (fun q h => h)
  refine va_calli (vx_runSW (As := As) (rest := rest) (Ts := []) ⟨C.hx, C.hb, C.hml, C.hown, fun _ h => absurd h List.not_mem_nil⟩ (hM H.size) ⟨⟨rfl, rfl, hR.1, hR.2, fun w hw a' U hW => by rw [List.mem_singleton.mp hw]; exact (C.hT.moved hW).use k1 a', List.mem_cons_self⟩, C.hT.use k1 args, C.hT.use k2 args, k4, fun sig h => (by rw [h] at k5; exact (Option.some.inj k5).symm), C.hT.use kl args, C.hT.use k3 args⟩ ⟨q_blindL, fun U hU hW => ⟨rfl, ⟨by rw [hU], by rw [hU]; exact hPc, va_K.moved hW.alike C.hK, hDc.weaken (fun _ _ _ _ => trivial), C.hT.moved hW⟩, ⟨C.hX.moved hW, C.hN.moved hW.alike⟩, by rw [hU]; exact C.hZ.to hS hF hW.alike⟩⟩ rfl hlen hl.1 hst (lv_room hw) hdg hf) hS (fun q _ h => hF q h) hF (fun r' u t H1 locs1 ht hvm hpost hB hz1 hk1 hS1 => ?_)
  subst hpost
  obtain ⟨f1, f2⟩ := q_frameS hP hD hadr hk1 (ht ▸ hB)
  exact kk H1 locs1 f1 f2 hS1
/-- a call of the reference, from the law -/
theorem q_callM {y : MethodName} {bytes : ByteArray} {maxL n index : Nat} {ret : Option FieldType} {rm : Room} {As : List Value} {r : Int32} {g3 : Nat → Nat → Int32} {z3 : Nat → Nat} (C : lw_C p l s m meth c b L xs D cA cL)
    (hP : va_P D vwCl (lwW cA cL ad ad' o f g z g' z') H) (hD : va_D (lwA s) (lwW cA cL ad ad' o f g z g' z')) (hS : va_S (lwA s) s.heap H locs)
    (hM : q_CI l y [Cond.code y bytes maxL ret] rm D cA (.ref (ad' 80) :: As) (mdW cA ad' g' z') r (mdW cA ad' g3 z3)) (km : q_okM y bytes maxL ret n) (kl : q_ok (.methodLink RL index y)) (hyc : y.cls = RX6)
    (hl : lv_has ls 7 lv) (hlen : As.length = n) (hst : st = As.reverse ++ .ref (ad' 80) :: rest) (hw : (rest.map fun v => v.category).sum ≤ 8)
    (hR : (rm.cells = 0 ∧ rm.slots = 0) ∧ rm.frames + 1 ≤ R.frames ∧ 8 + (maxL + 11) + rm.locals ≤ R.locals) (hf : cells ≤ R.cells ∧ slots ≤ R.slots) (hdg : decode cL_law pc = .ok (.invokevirtual index, 3))
    (kk : ∀ (H1 : Heap) (locs1 : List Loc), va_P D vwCl (lwW cA cL ad ad' o f g z g3 z3) H1 → va_D (lwA s) (lwW cA cL ad ad' o f g z g3 z3) → va_S (lwA s) s.heap H1 locs1 → W p l e R s m args below meth c H1 locs1 cells slots Q (F0 m (pc + 3) ls (.int r :: rest))) : W p l e R s m args below meth c H locs cells slots Q (F0 m pc ls st) :=
  q_callIS C.hx C.hb C.hml C.hown C.hT (q_kint C.hK) hP hD hS (fun q h => h) hM km kl (q0 := 0) (ci := 6) rfl rfl hyc ((o, .inl (cL, 1, .inr (.inl f))) :: rlW cA ad g z) [] wp_3 wp_3.symm ((mdW_adr _ _ _ _).trans (mdW_adr _ _ _ _).symm) hl hlen hst hw hR hf hdg kk
theorem q_lne {x y : Int64} (h : x = y) : lg_cmp x y = 0 := by rw [h]; simp [lg_cmp]
/-- the end of a step: the codes and, when none, the answers -/
theorem q_tail {r : Int32} {k : Nat} (C : lw_C p l s m meth c b L xs D cA cL) (hk : z' 4 = k) (hk3 : k ≤ 3) (hf0 : k = 0 → f 0 = r.toInt64)
    (hP : va_P D vwCl (lwW cA cL ad ad' o f g z g' z') H) (hD : va_D (lwA s) (lwW cA cL ad ad' o f g z g' z')) (hS : va_S (lwA s) s.heap H locs)
    (hl : lv_has ls 7 [(0, .ref b), (1, .ref (ad 70)), (2, .ref (ad' 80)), (3, .ref o), (4, .int (nI i)), (5, .int (nI k)), (6, .int r)])
    (hR : 12 ≤ R.frames ∧ 434 ≤ R.locals) (hf : cells ≤ R.cells ∧ slots ≤ R.slots)
    (d0 : decode cL_law pc = .ok (.aload_n 2, 1)) (d1 : decode cL_law (pc + 1) = .ok (.invokevirtual 104, 3)) (d2 : decode cL_law (pc + 4) = .ok (.iload 5, 2)) (d3 : decode cL_law (pc + 6) = .ok (.if_icmp .eq 5, 3)) (d4 : decode cL_law (pc + 11) = .ok (.iload 5, 2)) (d5 : decode cL_law (pc + 13) = .ok (.ifCond .ne 15, 3))
    (d6 : decode cL_law (pc + 16) = .ok (.aload_n 3, 1)) (d7 : decode cL_law (pc + 17) = .ok (.iconst 0, 1)) (d8 : decode cL_law (pc + 18) = .ok (.laload, 1)) (d9 : decode cL_law (pc + 19) = .ok (.iload 6, 2)) (d10 : decode cL_law (pc + 21) = .ok (.i2l, 1)) (d11 : decode cL_law (pc + 22) = .ok (.lcmp, 1)) (d12 : decode cL_law (pc + 23) = .ok (.ifCond .eq 5, 3))
    (kk : ∀ (H1 : Heap) (locs1 : List Loc), va_P D vwCl (lwW cA cL ad ad' o f g z g' z') H1 → va_D (lwA s) (lwW cA cL ad ad' o f g z g' z') → va_S (lwA s) s.heap H1 locs1 → W p l e R s m args below meth c H1 locs1 cells slots Q (F0 m (pc + 28) ls [])) : W p l e R s m args below meth c H locs cells slots Q (F0 m pc ls []) := by
  refine lv_aload_n C.hx C.hb d0 rfl (lv_at hl 2 rfl) ?_
  refine q_callM (rest := []) (As := []) C hP hD hS (c_X6_thrown l D cA ad' g' z') k_X6_thrown kl_L_104 rfl hl rfl rfl (Nat.le_of_ble_eq_true rfl) ⟨⟨rfl, rfl⟩, (by show 0 + 1 ≤ _; omega), (by show 8 + (1 + 11) + 0 ≤ _; omega)⟩ hf d1 (fun H1 locs1 hP1 hD1 hS1 => ?_)
  refine lv_iload C.hx C.hb d2 (lv_at hl 5 rfl) ?_
  refine lv_icmp_eq (tgt := pc + 11) C.hx C.hb d3 (by omega) (fun h => ?_) (fun h => absurd (by rw [hk]) h)
  refine lv_iload C.hx C.hb d4 (lv_at hl 5 rfl) ?_
  refine lv_if_ne (tgt := pc + 28) C.hx C.hb d5 (by omega) (fun h => kk _ _ hP1 hD1 hS1) (fun h => ?_)
  have k0 : k = 0 := (nI_eq (b := 0) (by omega) (by omega)).1 h
  refine lv_aload_n C.hx C.hb d6 rfl (lv_at hl 3 rfl) ?_
  refine lv_iconst (v := nI 0) C.hx C.hb d7 rfl ?_
  refine q_lald C.hx C.hb C.hK hP1 0 rfl rfl d8 ?_
  refine lv_iload C.hx C.hb d9 (lv_at hl 6 rfl) ?_
  refine lv_i2l C.hx C.hb d10 rfl ?_
  refine W.lcmp C.hx C.hb d11 ?_
  refine lv_if_eq (tgt := pc + 28) C.hx C.hb d12 (by omega) (fun h => kk _ _ hP1 hD1 hS1) (fun h => absurd (q_lne (hf0 k0)) h)
/-- the same, the answer a truth -/
theorem q_tailb {r : Int32} {k : Nat} (C : lw_C p l s m meth c b L xs D cA cL) (hk : z' 4 = k) (hk3 : k ≤ 3) (hf0 : k = 0 → f 0 = r.toInt64) (hr : r = nI 0 ∨ r = nI 1)
    (hP : va_P D vwCl (lwW cA cL ad ad' o f g z g' z') H) (hD : va_D (lwA s) (lwW cA cL ad ad' o f g z g' z')) (hS : va_S (lwA s) s.heap H locs)
    (hl : lv_has ls 7 [(0, .ref b), (1, .ref (ad 70)), (2, .ref (ad' 80)), (3, .ref o), (4, .int (nI i)), (5, .int (nI k)), (6, .int r)])
    (hR : 12 ≤ R.frames ∧ 434 ≤ R.locals) (hf : cells ≤ R.cells ∧ slots ≤ R.slots)
    (d0 : decode cL_law pc = .ok (.aload_n 2, 1)) (d1 : decode cL_law (pc + 1) = .ok (.invokevirtual 104, 3)) (d2 : decode cL_law (pc + 4) = .ok (.iload 5, 2)) (d3 : decode cL_law (pc + 6) = .ok (.if_icmp .eq 5, 3)) (d4 : decode cL_law (pc + 11) = .ok (.iload 5, 2)) (d5 : decode cL_law (pc + 13) = .ok (.ifCond .ne 22, 3))
    (d6 : decode cL_law (pc + 16) = .ok (.aload_n 3, 1)) (d7 : decode cL_law (pc + 17) = .ok (.iconst 0, 1)) (d8 : decode cL_law (pc + 18) = .ok (.laload, 1)) (d9 : decode cL_law (pc + 19) = .ok (.iload 6, 2)) (d10 : decode cL_law (pc + 21) = .ok (.ifCond .eq 7, 3)) (d13 : decode cL_law (pc + 24) = .ok (.lconst 1, 1)) (d14 : decode cL_law (pc + 25) = .ok (.goto 4, 3)) (d15 : decode cL_law (pc + 28) = .ok (.lconst 0, 1)) (d11 : decode cL_law (pc + 29) = .ok (.lcmp, 1)) (d12 : decode cL_law (pc + 30) = .ok (.ifCond .eq 5, 3))
    (kk : ∀ (H1 : Heap) (locs1 : List Loc), va_P D vwCl (lwW cA cL ad ad' o f g z g' z') H1 → va_D (lwA s) (lwW cA cL ad ad' o f g z g' z') → va_S (lwA s) s.heap H1 locs1 → W p l e R s m args below meth c H1 locs1 cells slots Q (F0 m (pc + 35) ls [])) : W p l e R s m args below meth c H locs cells slots Q (F0 m pc ls []) := by
  refine lv_aload_n C.hx C.hb d0 rfl (lv_at hl 2 rfl) ?_
  refine q_callM (rest := []) (As := []) C hP hD hS (c_X6_thrown l D cA ad' g' z') k_X6_thrown kl_L_104 rfl hl rfl rfl (Nat.le_of_ble_eq_true rfl) ⟨⟨rfl, rfl⟩, (by show 0 + 1 ≤ _; omega), (by show 8 + (1 + 11) + 0 ≤ _; omega)⟩ hf d1 (fun H1 locs1 hP1 hD1 hS1 => ?_)
  refine lv_iload C.hx C.hb d2 (lv_at hl 5 rfl) ?_
  refine lv_icmp_eq (tgt := pc + 11) C.hx C.hb d3 (by omega) (fun h => ?_) (fun h => absurd (by rw [hk]) h)
  refine lv_iload C.hx C.hb d4 (lv_at hl 5 rfl) ?_
  refine lv_if_ne (tgt := pc + 35) C.hx C.hb d5 (by omega) (fun h => kk _ _ hP1 hD1 hS1) (fun h => ?_)
  have k0 : k = 0 := (nI_eq (b := 0) (by omega) (by omega)).1 h
  refine lv_aload_n C.hx C.hb d6 rfl (lv_at hl 3 rfl) ?_
  refine lv_iconst (v := nI 0) C.hx C.hb d7 rfl ?_
  refine q_lald C.hx C.hb C.hK hP1 0 rfl rfl d8 ?_
  refine lv_iload C.hx C.hb d9 (lv_at hl 6 rfl) ?_
  have fin : lg_cmp (f 0) r.toInt64 = 0 := q_lne (hf0 k0)
  refine lv_if_eq (tgt := pc + 28) C.hx C.hb d10 (by omega) (fun h => ?_) (fun h => ?_)
  · refine lv_lconst (v := r.toInt64) C.hx C.hb d15 (by rw [h]; rfl) ?_
    refine W.lcmp C.hx C.hb d11 ?_
    exact lv_if_eq (tgt := pc + 35) C.hx C.hb d12 (by omega) (fun h => kk _ _ hP1 hD1 hS1) (fun h => absurd fin h)
  · have h1 : r = nI 1 := hr.elim (fun q => absurd q h) id
    refine lv_lconst (v := r.toInt64) C.hx C.hb d13 (by rw [h1]; rfl) ?_
    refine lv_goto (tgt := pc + 29) C.hx C.hb d14 (by omega) ?_
    refine W.lcmp C.hx C.hb d11 ?_
    exact lv_if_eq (tgt := pc + 35) C.hx C.hb d12 (by omega) (fun h => kk _ _ hP1 hD1 hS1) (fun h => absurd fin h)
end LR
/-- from the end of a step on -/
abbrev lw_N (p : Program) (l : Launch) (e : Env) (s : State) (m : MethodId) (below : List Frame) (meth : Method) (c : Code) (b : Nat) (D : va_G) (cA cL : ClassId) (ad ad' : Nat → Nat) (o i cells slots : Nat) (Q : State → Prop) : Prop := ∀ (f2 : Nat → Int64) (g2 : Nat → Nat → Int32) (z2 : Nat → Nat) (g3 : Nat → Nat → Int32) (z3 : Nat → Nat) (H : Heap) (locs : List Loc) (ls : Array Slot), rRel g2 z2 g3 z3 → va_P D vwCl (lwW cA cL ad ad' o f2 g2 z2 g3 z3) H → va_D (lwA s) (lwW cA cL ad ad' o f2 g2 z2 g3 z3) → va_S (lwA s) s.heap H locs → lv_has ls 7 [(0, .ref b), (1, .ref (ad 70)), (2, .ref (ad' 80)), (3, .ref o), (4, .int (nI i))] → W p l e room_1 s m #[Value.ref b] below meth c H locs (cells + 1) (slots + 6) Q (F0 m 1889 ls [])
