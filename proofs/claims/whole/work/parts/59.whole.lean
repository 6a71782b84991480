/-! THE CLAIM OUT OF ONE WALK OF THE LAW'S BODY. Your part is whole_start (and what it stands on); all else here is the same for every law, but numbers. -/
def R_law : String := "OfficeholdersRollLaw"
def lw_P (b : Addr) (xs : List Int32) (args : Array Value) (s : State) : Prop := args = #[.ref b] ∧ s.IntsAt b xs ∧ xs.length ≤ 2560 ∧ (Jvm.Cond.and given_1 narrow_1).before args s = true
def lw_Q (_ : Array Value) (s : State) (o : Outcome) (t : State) : Prop := o = .returned (some (.int 1)) ∧ Framed s o t [] 606944 7275272
def lw_Z (below : List Frame) (a : Array Value) (s : State) : State → Prop := fun t => ∃ o, t.status = .running ∧ Ended t below o ∧ lw_Q a s o t
/-- the law's own end, with 1 on the stack, nothing written that was there before, its room as the claim has it -/
theorem lw_ret {p : Program} {l : Launch} {e : Env} {s : State} {m : MethodId} {below : List Frame} {meth : Method} {c : Code} {b : Nat} (hx : p.tables.exec = Jvm.exec) (hb : c.code = code) (hr : meth.sig.returnType = ret) (hlocks : meth.locks = false) {pc : Nat} {H : Heap} {ls : Array Slot} (hdg : decode code pc = .ok (.ireturn, 1)) : W p l e room_1 s m #[Value.ref b] below meth c H [] 606944 7275272 (lw_Z below #[Value.ref b] s) (F0 m pc ls [.int 1]) := by
  intro T hT X
  obtain ⟨fs, hret, hrun, hended, hW, hframe⟩ := X.leave (v := some (.int 1)) (hlocks := hlocks) (fun h => by rw [hr] at h; cases h)
  have hmeth' : T.vm.method? m = some meth := X.method'
  refine ⟨T.setFrames fs, ?_, .returned (some (.int 1)), hrun, hended, rfl, ⟨_, rfl⟩, hW, hframe⟩
  jvm_step X.here [X.here.top, hx, hb, hdg, hmeth', hr, ret, narrow_b1]
  (try refine ⟨rfl, ?_⟩); (try refine ⟨rfl, ?_⟩)
  first | (intro acts; rw [hret _ acts rfl rfl rfl]) | rw [hret _ _ rfl rfl rfl]
  exact Steps.refl _
/-- what holds at the law's entry: the machine, the code, the tables' words (any of lw_tbl by 'hts w (by decide +kernel)'), the script of L ints xs at the cell b, what the Statement gives of the start (any of its parts by flat_of_before) -/
def lw_At (p : Program) (s : State) (m : MethodId) (meth : Method) (c : Code) (b L : Nat) (xs : Nat → Int32) : Prop :=
  p.tables.exec = Jvm.exec ∧ c.code = code ∧ meth.sig.returnType = ret ∧ c.maxLocals = 7 ∧ s.vm.findClass R_law = some m.cls ∧ (∀ w ∈ lw_tbl, w.before #[Value.ref b] s = true) ∧ va_X b L xs s s.heap ∧ b < s.heap.size ∧ meth.locks = false ∧ (Jvm.Cond.and given_1 narrow_1).before #[Value.ref b] s = true
theorem lw_31 (x : Int32) : ∃ j, j < 32 ∧ x &&& nI 31 = nI j := by
  refine ⟨(x &&& nI 31).toBitVec.toNat, ?_, ?_⟩
  · rw [Int32.toBitVec_and, BitVec.toNat_and]
    exact Nat.lt_of_le_of_lt Nat.and_le_right (by decide +kernel)
  · apply Int32.toBitVec_inj.mp
    show _ = BitVec.ofNat 32 _
    rw [BitVec.ofNat_toNat, BitVec.setWidth_eq]
set_option maxHeartbeats 4000000 in
set_option maxRecDepth 100000 in
theorem lw_loop {p : Program} {l : Launch} {e : Env} {s : State} {m : MethodId} {below : List Frame} {meth : Method} {c : Code} {b L : Nat} {xs : Nat → Int32} {D : va_G} {cA cL : ClassId} {ad ad' : Nat → Nat} {o : Nat} (C : lw_C p l s m meth c b L xs D cA cL) (hr : meth.sig.returnType = ret) (hlk : meth.locks = false) : ∀ (n t : Nat), t ≤ 512 → 513 ≤ t + n → ∀ (f : Nat → Int64) (g : Nat → Nat → Int32) (z : Nat → Nat) (g' : Nat → Nat → Int32) (z' : Nat → Nat) (H : Heap) (locs : List Loc) (ls : Array Slot), rRel g z g' z' → va_P D vwCl (lwW cA cL ad ad' o f g z g' z') H → va_D (lwA s) (lwW cA cL ad ad' o f g z g' z') → va_S (lwA s) s.heap H locs → lv_has ls 7 [(0, .ref b), (1, .ref (ad 70)), (2, .ref (ad' 80)), (3, .ref o), (4, .int (nI (5 * t)))] →
    W p l e room_1 s m #[Value.ref b] below meth c H locs (92 + t) (1528 + 6 * t) (lw_Z below #[Value.ref b] s) (F0 m 23 ls [])
  | 0, t, h1, h2 => by omega
  | n + 1, t, h1, h2 => by
    intro f g z g' z' H locs ls hR hP hD hS hl
    have hL := C.hL
    have hbA : ¬ lwA s b := Nat.not_le.mpr C.hbl
    refine lv_iload C.hx C.hb dL_law_23 (lv_at hl 4 rfl) ?_
    refine lv_aload_n C.hx C.hb dL_law_25 rfl (lv_at hl 0 rfl) ?_
    refine va_slen C.hx C.hb C.hS C.hbl hbA hS dL_law_26 ?_
    refine lv_iconst (v := nI 5) C.hx C.hb dL_law_27 rfl ?_
    refine lv_isub C.hx C.hb dL_law_28 ?_
    have e1 : (Int32.ofNat L - nI 5).toInt = (L : Int) - 5 := pk_sub_toInt (a := L) (b := 5) (by omega) (by omega)
    have e2 : (nI (5 * t)).toInt = ((5 * t : Nat) : Int) := nI_toInt (by omega)
    refine lv_icmp_gt (tgt := 1895) C.hx C.hb dL_law_29 (by decide) (fun h => ?_) (fun h => ?_)
    · refine va_forget hS.2.2 ?_
      refine W.widen (k := 606944) (n := 7275272) (by omega) (by omega) ?_
      refine lv_iconst (v := 1) C.hx C.hb dL_law_1895 rfl ?_
      exact lw_ret C.hx C.hb hr hlk dL_law_1896
    · have hi : 5 * t + 4 < L := by
        rw [Int32.lt_iff_toInt_lt, e1, e2] at h
        omega
      have hroom : (92 + t) + 1 ≤ 606944 ∧ (1528 + 6 * t) + 6 ≤ 7275272 := by omega
      have kk : lw_N p l e s m below meth c b D cA cL ad ad' o (5 * t) (92 + t) (1528 + 6 * t) (lw_Z below #[Value.ref b] s) := fun f2 g2 z2 g3 z3 H2 locs2 ls2 hR2 hP2 hD2 hS2 hl2 => by
        refine lv_iinc (v := nI (5 * (t + 1))) (lv' := [(4, .int (nI (5 * (t + 1)))), (0, .ref b), (1, .ref (ad 70)), (2, .ref (ad' 80)), (3, .ref o)]) C.hx C.hb dL_law_1889 hl2 (k := 4) rfl (q_inc5 (5 * t)) (by decide) rfl (fun ls3 hl3 => ?_)
        refine lv_goto (tgt := 23) C.hx C.hb dL_law_1892 (by decide) ?_
        refine W.widen (k := 92 + (t + 1)) (n := 1528 + 6 * (t + 1)) (by omega) (by omega) ?_
        exact lw_loop C hr hlk n (t + 1) (by omega) (by omega) f2 g2 z2 g3 z3 H2 locs2 ls3 hR2 hP2 hD2 hS2 (lv_sub hl3 [1, 2, 3, 4, 0] rfl)
      refine lv_aload_n C.hx C.hb dL_law_32 rfl (lv_at hl 0 rfl) ?_
      refine lv_iload C.hx C.hb dL_law_33 (lv_at hl 4 rfl) ?_
      refine va_sld C.hx C.hb C.hS C.hbl hbA hS (vp_in_nI (by omega) (by omega)) dL_law_35 ?_
      refine lv_bipush (v := nI 31) C.hx C.hb dL_law_36 (by decide +kernel) ?_
      refine lv_iand C.hx C.hb dL_law_38 ?_
      obtain ⟨j, hj, ej⟩ := lw_31 (xs (nI (5 * t)).toNatClampNeg)
      rw [ej]
      by_cases hj25 : j < 25
      · rcases (show j = 0 ∨ j = 1 ∨ j = 2 ∨ j = 3 ∨ j = 4 ∨ j = 5 ∨ j = 6 ∨ j = 7 ∨ j = 8 ∨ j = 9 ∨ j = 10 ∨ j = 11 ∨ j = 12 ∨ j = 13 ∨ j = 14 ∨ j = 15 ∨ j = 16 ∨ j = 17 ∨ j = 18 ∨ j = 19 ∨ j = 20 ∨ j = 21 ∨ j = 22 ∨ j = 23 ∨ j = 24 by omega) with rfl | rfl | rfl | rfl | rfl | rfl | rfl | rfl | rfl | rfl | rfl | rfl | rfl | rfl | rfl | rfl | rfl | rfl | rfl | rfl | rfl | rfl | rfl | rfl | rfl
        · exact lv_tableIn (off := 113) (tgt := 152) C.hx C.hb dL_law_39 (by decide +kernel) (by decide +kernel) (by decide +kernel) (by decide) (lw_c_mention C hi hroom hR hP hD hS hl kk)
        · exact lv_tableIn (off := 205) (tgt := 244) C.hx C.hb dL_law_39 (by decide +kernel) (by decide +kernel) (by decide +kernel) (by decide) (lw_c_rank C hi hroom hR hP hD hS hl kk)
        · exact lv_tableIn (off := 273) (tgt := 312) C.hx C.hb dL_law_39 (by decide +kernel) (by decide +kernel) (by decide +kernel) (by decide) (lw_c_bar C hi hroom hR hP hD hS hl kk)
        · exact lv_tableIn (off := 376) (tgt := 415) C.hx C.hb dL_law_39 (by decide +kernel) (by decide +kernel) (by decide +kernel) (by decide) (lw_c_ahead C hi hroom hR hP hD hS hl kk)
        · exact lv_tableIn (off := 456) (tgt := 495) C.hx C.hb dL_law_39 (by decide +kernel) (by decide +kernel) (by decide +kernel) (by decide) (lw_c_find C hi hroom hR hP hD hS hl kk)
        · exact lv_tableIn (off := 536) (tgt := 575) C.hx C.hb dL_law_39 (by decide +kernel) (by decide +kernel) (by decide +kernel) (by decide) (lw_c_wouldMove C hi hroom hR hP hD hS hl kk)
        · exact lv_tableIn (off := 616) (tgt := 655) C.hx C.hb dL_law_39 (by decide +kernel) (by decide +kernel) (by decide +kernel) (by decide) (lw_c_year C hi hroom hR hP hD hS hl kk)
        · exact lv_tableIn (off := 700) (tgt := 739) C.hx C.hb dL_law_39 (by decide +kernel) (by decide +kernel) (by decide +kernel) (by decide) (lw_c_yearAnew C hi hroom hR hP hD hS hl kk)
        · exact lv_tableIn (off := 784) (tgt := 823) C.hx C.hb dL_law_39 (by decide +kernel) (by decide +kernel) (by decide +kernel) (by decide) (lw_c_seal C hi hroom hR hP hD hS hl kk)
        · exact lv_tableIn (off := 859) (tgt := 898) C.hx C.hb dL_law_39 (by decide +kernel) (by decide +kernel) (by decide +kernel) (by decide) (lw_c_block C hi hroom hR hP hD hS hl kk)
        · exact lv_tableIn (off := 962) (tgt := 1001) C.hx C.hb dL_law_39 (by decide +kernel) (by decide +kernel) (by decide +kernel) (by decide) (lw_c_weight C hi hroom hR hP hD hS hl kk)
        · exact lv_tableIn (off := 1030) (tgt := 1069) C.hx C.hb dL_law_39 (by decide +kernel) (by decide +kernel) (by decide +kernel) (by decide) (lw_c_whyNot C hi hroom hR hP hD hS hl kk)
        · exact lv_tableIn (off := 1098) (tgt := 1137) C.hx C.hb dL_law_39 (by decide +kernel) (by decide +kernel) (by decide +kernel) (by decide) (lw_c_join C hi hroom hR hP hD hS hl kk)
        · exact lv_tableIn (off := 1166) (tgt := 1205) C.hx C.hb dL_law_39 (by decide +kernel) (by decide +kernel) (by decide +kernel) (by decide) (lw_c_split C hi hroom hR hP hD hS hl kk)
        · exact lv_tableIn (off := 1222) (tgt := 1261) C.hx C.hb dL_law_39 (by decide +kernel) (by decide +kernel) (by decide +kernel) (by decide) (lw_c_person C hi hroom hR hP hD hS hl kk)
        · exact lv_tableIn (off := 1278) (tgt := 1317) C.hx C.hb dL_law_39 (by decide +kernel) (by decide +kernel) (by decide +kernel) (by decide) (lw_c_entry C hi hroom hR hP hD hS hl kk)
        · exact lv_tableIn (off := 1334) (tgt := 1373) C.hx C.hb dL_law_39 (by decide +kernel) (by decide +kernel) (by decide +kernel) (by decide) (lw_c_size C hi hroom hR hP hD hS hl kk)
        · exact lv_tableIn (off := 1390) (tgt := 1429) C.hx C.hb dL_law_39 (by decide +kernel) (by decide +kernel) (by decide +kernel) (by decide) (lw_c_careerAt C hi hroom hR hP hD hS hl kk)
        · exact lv_tableIn (off := 1458) (tgt := 1497) C.hx C.hb dL_law_39 (by decide +kernel) (by decide +kernel) (by decide +kernel) (by decide) (lw_c_breaches C hi hroom hR hP hD hS hl kk)
        · exact lv_tableIn (off := 1514) (tgt := 1553) C.hx C.hb dL_law_39 (by decide +kernel) (by decide +kernel) (by decide +kernel) (by decide) (lw_c_kin C hi hroom hR hP hD hS hl kk)
        · exact lv_tableIn (off := 1589) (tgt := 1628) C.hx C.hb dL_law_39 (by decide +kernel) (by decide +kernel) (by decide +kernel) (by decide) (lw_c_degree C hi hroom hR hP hD hS hl kk)
        · exact lv_tableIn (off := 1657) (tgt := 1696) C.hx C.hb dL_law_39 (by decide +kernel) (by decide +kernel) (by decide +kernel) (by decide) (lw_c_best C hi hroom hR hP hD hS hl kk)
        · exact lv_tableIn (off := 1713) (tgt := 1752) C.hx C.hb dL_law_39 (by decide +kernel) (by decide +kernel) (by decide +kernel) (by decide) (lw_c_bestAnew C hi hroom hR hP hD hS hl kk)
        · exact lv_tableIn (off := 1769) (tgt := 1808) C.hx C.hb dL_law_39 (by decide +kernel) (by decide +kernel) (by decide +kernel) (by decide) (lw_c_rival C hi hroom hR hP hD hS hl kk)
        · exact lv_tableIn (off := 1837) (tgt := 1876) C.hx C.hb dL_law_39 (by decide +kernel) (by decide +kernel) (by decide +kernel) (by decide) (lw_c_differ C hi hroom hR hP hD hS hl kk)
      · refine lv_tableOut (tgt := 1889) C.hx C.hb dL_law_39 (Or.inr (by rw [nI_toInt (by omega)]; omega)) (by decide) ?_
        refine W.widen (k := (92 + t) + 1) (n := (1528 + 6 * t) + 6) (by omega) (by omega) ?_
        exact kk f g z g' z' H locs ls hR hP hD hS hl
theorem lw_strs : ∀ q ∈ q_strs, Cond.stringRef RX5 q.1 q.2 ∈ lw_tbl ∧ Cond.exactly (.string RX5 q.1) "java/lang/String" ∈ flatC (Jvm.Cond.and given_1 narrow_1) := by decide +kernel
abbrev g5_0 : Nat → Nat → Int32 := gs (gs (gs (fun _ _ => nI 0) 13 (fun _ => nI 999)) 18 (fun _ => nI 999)) 5 (upd (upd (upd (upd (upd (upd (upd (upd (fun _ => nI 0) 0 (nI 0)) 1 (nI 1)) 2 (nI 2)) 3 (nI 3)) 4 (nI 4)) 5 (nI 5)) 6 (nI 6)) 7 (nI 7))
abbrev g6_0 : Nat → Nat → Int32 := gs (fun _ _ => nI 0) 5 (upd (upd (upd (upd (upd (upd (upd (upd (fun _ => nI 0) 0 (nI 0)) 1 (nI 1)) 2 (nI 2)) 3 (nI 3)) 4 (nI 4)) 5 (nI 5)) 6 (nI 6)) 7 (nI 7))
theorem lw_rel0 : rRel g5_0 (fun _ => 0) g6_0 (fun _ => 0) := by
  have n0 : ∀ {P : Nat → Prop} k, k < 0 → P k := fun k h => absurd h (Nat.not_lt_zero k)
  have hs : symB (fun _ => nI 0) := fun i j hi hj => by
    rw [hasB_bit (by omega) hi, hasB_bit (by omega) hj, Nat.zero_div, Nat.zero_div]
  refine ⟨⟨⟨rfl, rfl, rfl⟩, ⟨rfl, rfl, rfl, rfl, rfl, rfl, rfl, rfl, rfl, rfl, rfl, rfl, rfl, rfl, rfl, rfl, rfl⟩, n0⟩, ⟨⟨n0, n0, n0⟩, ⟨fun _ => 0, n0, n0, n0⟩, ⟨n0, n0, fun G _ _ => n0⟩, ⟨n0, n0, fun G _ _ => n0⟩, fun k _ => ⟨rfl, rfl, rfl, rfl⟩, n0⟩, ⟨n0, n0, fun k _ => rfl, n0, by decide, by decide, by decide⟩, ⟨hs, hs⟩, fun k _ => q_r_nI (by decide)⟩
theorem lw_tx {s : State} {args : Array Value} (hts : ∀ w ∈ lw_tbl, w.before args s = true) : q_Tx s := fun w hw h2 => by
  have h1 := hts w hw
  match w, h2, h1 with
  | .castable _ _, _, h1 => exact va_Nw.of rfl h1
  | .declares _, _, h1 => exact va_Nw.of rfl h1
  | .methodLinkNest _ _ _ _, _, h1 => exact va_Nw.of rfl h1
theorem lw_D {s : State} (hT : q_Tb s) : ∃ D : va_G, ∀ (k : Nat) (q : vw_C), vwCl[k]? = some q → u_Kn s q.1 q.2.1 q.2.2 (D.1 k) (D.2 k) := by
  obtain ⟨c0, i0, k0⟩ := u_known (C := RX0) (T := TX0) (N := 6) (n := 6) (ws := u_ws RX0 TX0 6) (s := s) (args := #[]) (fun w hw => hT.use (kw_X0 w hw) #[]) (fun w h => h) (hT.use kn_X0 #[])
  obtain ⟨c1, i1, k1⟩ := u_known (C := RX1) (T := TX1) (N := 1) (n := 1) (ws := u_ws RX1 TX1 1) (s := s) (args := #[]) (fun w hw => hT.use (kw_X1 w hw) #[]) (fun w h => h) (hT.use kn_X1 #[])
  obtain ⟨c2, i2, k2⟩ := u_known (C := RX2) (T := TX2) (N := 3) (n := 3) (ws := u_ws RX2 TX2 3) (s := s) (args := #[]) (fun w hw => hT.use (kw_X2 w hw) #[]) (fun w h => h) (hT.use kn_X2 #[])
  obtain ⟨c3, i3, k3⟩ := u_known (C := RX3) (T := TX3) (N := 1) (n := 1) (ws := u_ws RX3 TX3 1) (s := s) (args := #[]) (fun w hw => hT.use (kw_X3 w hw) #[]) (fun w h => h) (hT.use kn_X3 #[])
  obtain ⟨c4, i4, k4⟩ := u_known (C := RX4) (T := TX4) (N := 11) (n := 11) (ws := u_ws RX4 TX4 11) (s := s) (args := #[]) (fun w hw => hT.use (kw_X4 w hw) #[]) (fun w h => h) (hT.use kn_X4 #[])
  obtain ⟨c5, i5, k5⟩ := u_known (C := RX5) (T := TX5) (N := 16) (n := 16) (ws := u_ws RX5 TX5 16) (s := s) (args := #[]) (fun w hw => hT.use (kw_X5 w hw) #[]) (fun w h => h) (hT.use kn_X5 #[])
  obtain ⟨c6, i6, k6⟩ := u_known (C := RX6) (T := TX6) (N := 28) (n := 28) (ws := u_ws RX6 TX6 28) (s := s) (args := #[]) (fun w hw => hT.use (kw_X6 w hw) #[]) (fun w h => h) (hT.use kn_X6 #[])
  refine ⟨(fun k => match k with | 0 => c0 | 1 => c1 | 2 => c2 | 3 => c3 | 4 => c4 | 5 => c5 | _ => c6, fun k => match k with | 0 => i0 | 1 => i1 | 2 => i2 | 3 => i3 | 4 => i4 | 5 => i5 | _ => i6), fun k q hq => ?_⟩
  match k, hq with
  | 0, hq => cases hq; exact k0
  | 1, hq => cases hq; exact k1
  | 2, hq => cases hq; exact k2
  | 3, hq => cases hq; exact k3
  | 4, hq => cases hq; exact k4
  | 5, hq => cases hq; exact k5
  | 6, hq => cases hq; exact k6
  | k + 7, hq => simp [vwCl] at hq
theorem lw_cA {s : State} (hT : q_Tb s) : ∃ cA : ClassId, ArrOfT s cA .int ∧ va_RA s cA .int := by
  obtain ⟨cA, kA, comp, h1, h2, h3⟩ := Cond.arrayClass_spec (hT.use ka_int #[])
  exact ⟨cA, fun n z => ⟨fun k h => (by cases h), kA, h2, comp, h3⟩, h1⟩
set_option maxHeartbeats 4000000 in
set_option maxRecDepth 100000 in
theorem whole_start {p : Program} {e : Env} {s : State} {m : MethodId} {below : List Frame} {meth : Method} {c : Code} (l : Launch) (hflags : l.flags = flags0) {b L : Nat} {xs : Nat → Int32} (hL : L ≤ 2560) (C0 : lw_At p s m meth c b L xs) : W p l e room_1 s m #[Value.ref b] below meth c s.heap [] 0 0 (lw_Z below #[Value.ref b] s) (entryFrame m ([Value.ref b] : List Value).toArray 7) := by
  obtain ⟨hx, hb, hr, hml, hown, hts, hXs, hbl, hlocks, hgv⟩ := id C0
  have hs := flat_of_before _ hgv
  have hT : q_Tb s := fun w hw => word_at (State.WarmedH.refl s) (good_of_word hw.2) (hts w hw.1)
  have hTx : q_Tx s := lw_tx hts
  have hStr : q_Str s := fun q hq => by
    obtain ⟨h1, h2⟩ := lw_strs q hq
    obtain ⟨a, c9, cA9, kA9, q1, -⟩ := Cond.exactly_spec (args := #[Value.ref b]) (first := s) (o := none) (s := s) (idx := []) (t := .string RX5 q.1) (cls := "java/lang/String") (hs _ h2)
    exact ⟨a, vk_R.of (hts _ h1) q1⟩
  have hN : q_Nc s := ⟨va_Nc.of (hs _ (by decide +kernel)), va_Nc.of (hs _ (by decide +kernel)), va_Nc.of (hs _ (by decide +kernel))⟩
  have hZ : q_Zz (fun q : Nat => s.heap.size ≤ q) s s.heap := ⟨vx_Zqof (hts _ (by decide +kernel)) (hts _ (by decide +kernel)) (hs _ (by decide +kernel)) (fun a h => Nat.not_le.mpr h), vx_Zqof (hts _ (by decide +kernel)) (hts _ (by decide +kernel)) (hs _ (by decide +kernel)) (fun a h => Nat.not_le.mpr h)⟩
  have htr : l.stackTraces = false := by
    unfold Launch.stackTraces; rw [hflags]; decide
  obtain ⟨D, hKc⟩ := lw_D hT
  obtain ⟨cA, hA1, hA2⟩ := lw_cA hT
  have hA : ∀ q : Nat, s.heap.size ≤ q → lwA s q := fun _ h => h
  have hS : va_S (lwA s) s.heap s.heap [] := va_S.rf
  have hK : va_K D vwCl [(cA, .int)] s := ⟨hKc, fun k q h => by
    match k, h with
    | 0, h => cases h; exact ⟨hA1, hA2⟩
    | k + 1, h => simp at h⟩
  have hP : va_P D vwCl [] s.heap := fun k q h => by simp at h
  have hD : va_D (lwA s) [] := ⟨fun i j p q h => by simp at h, fun k q h => by simp at h⟩
  have hl := lv_entry ([.ref b]) (n := 7) (Nat.le_of_ble_eq_true rfl)
  rw [lg_entry_eq]
  generalize (lg_sl ([.ref b]) ++ List.replicate (7 - (lg_sl ([.ref b])).length) Slot.unset).toArray = ls at hl ⊢
  have hl : lv_has ls 7 [(0, .ref b)] := hl
  have hown : s.vm.findClass RL = some m.cls := hown
  refine q_new (N := 16) (ci := 5) hx hb hT hown kw_X5 tyX5 tyX5_ok kx_L_8 kn_X5 ki_OfficeholdersRoll hK hP hD hS hA rfl [.null, .null, .null, .null, .null, .null, .null, .null, .null, .null, .null, .null, .null, .null, .null, .int 0] q_fs_X5 (Nat.le_of_ble_eq_true rfl) (Nat.le_of_ble_eq_true rfl) dL_law_0 (fun q5 H hP hD hS => ?_)
  refine lv_dup hx hb dL_law_3 rfl ?_
  refine q_callN (rest := [.ref q5]) (As := []) (mc := 65) (ms := 957) (wr := []) hx hb hml hown hT hTx hK hP hD hS hA (c_X5_init l D cA q5) k_X5_init kl_L_94 hl rfl rfl (Nat.le_of_ble_eq_true rfl) ⟨⟨rfl, rfl⟩, Nat.le_of_ble_eq_true rfl, Nat.le_of_ble_eq_true rfl⟩ ⟨Nat.le_of_ble_eq_true rfl, Nat.le_of_ble_eq_true rfl⟩ dL_law_4 (fun u5 H locs hu5 hP hD hS => ?_)
  have hP : va_P D vwCl (rlW cA u5 g5_0 (fun _ => 0)) H := hP
  have hD : va_D (lwA s) (rlW cA u5 g5_0 (fun _ => 0)) := hD
  refine lv_astore_n (lv' := [(1, .ref q5), (0, .ref b)]) hx hb dL_law_7 rfl hl (by decide) rfl (fun ls hl => ?_)
  refine q_new (N := 28) (ci := 6) hx hb hT hown kw_X6 tyX6 tyX6_ok kx_L_95 kn_X6 ki_OfficeholdersRollModel hK hP hD hS hA rfl [.int 0, .null, .null, .null, .null, .null, .null, .null, .null, .null, .null, .null, .null, .null, .null, .null, .null, .int 0, .null, .null, .null, .int 0, .null, .null, .null, .null, .null, .int 0] q_fs_X6 (Nat.le_of_ble_eq_true rfl) (Nat.le_of_ble_eq_true rfl) dL_law_8 (fun q6 H hP hD hS => ?_)
  refine lv_dup hx hb dL_law_11 rfl ?_
  refine q_callN (rest := [.ref q6]) (As := []) (mc := 24) (ms := 526) (wr := rlW cA u5 g5_0 (fun _ => 0)) hx hb hml hown hT hTx hK hP hD hS hA (c_X6_init l D cA q6) k_X6_init kl_L_97 hl rfl rfl (Nat.le_of_ble_eq_true rfl) ⟨⟨rfl, rfl⟩, Nat.le_of_ble_eq_true rfl, Nat.le_of_ble_eq_true rfl⟩ ⟨Nat.le_of_ble_eq_true rfl, Nat.le_of_ble_eq_true rfl⟩ dL_law_12 (fun u6 H locs hu6 hP hD hS => ?_)
  refine lv_astore_n (lv' := [(2, .ref q6), (1, .ref q5), (0, .ref b)]) hx hb dL_law_15 rfl hl (by decide) rfl (fun ls hl => ?_)
  refine lv_iconst (v := nI 1) hx hb dL_law_16 rfl ?_
  refine va_newa (atype := .long) hx hb (hT.use ka_long #[Value.ref b]) (ty := .long) rfl hK hP hD hS hA (N' := 1) (a0 := (1, .inr (.inl (fun _ => 0)))) (fun c9 => rfl) (nI_pos (by omega)) (nI_clamp (by omega)) (by show 1 * 8 ≤ _; omega) (Nat.le_of_ble_eq_true rfl) (Nat.le_of_ble_eq_true rfl) dL_law_17 (fun o cL H hK hP hD hS => ?_)
  have hP := q_rot hP
  have hD := q_rotD hD
  refine lv_astore_n (lv' := [(3, .ref o), (2, .ref q6), (1, .ref q5), (0, .ref b)]) hx hb dL_law_19 rfl hl (by decide) rfl (fun ls hl => ?_)
  refine lv_iconst (v := nI (5 * 0)) hx hb dL_law_20 rfl ?_
  refine lv_istore (lv' := [(4, .int (nI (5 * 0))), (3, .ref o), (2, .ref q6), (1, .ref q5), (0, .ref b)]) hx hb dL_law_21 hl (by decide) rfl (fun ls hl => ?_)
  refine W.widen (k := 92 + 0) (n := 1528 + 6 * 0) (Nat.le_of_ble_eq_true rfl) (Nat.le_of_ble_eq_true rfl) ?_
  have C : lw_C p l s m meth c b L xs D cA cL := ⟨hx, hb, hml, hown, hT, hK, hXs, hbl, ⟨hTx, hStr⟩, hN, hZ, htr, hL⟩
  exact lw_loop C hr hlocks 513 0 (by omega) (by omega) (fun _ => 0) g5_0 (fun _ => 0) g6_0 (fun _ => 0) H locs ls lw_rel0 hP hD hS (by rw [hu5, hu6]; exact lv_sub hl [4, 3, 2, 1, 0] rfl)
set_option maxHeartbeats 4000000 in
theorem lw_walk (l : Launch) (hflags : l.flags = flags0) (b : Addr) (xs : List Int32) : MetFree l x (headSpec (Jvm.Cond.code x code maxLocals ret :: tables_1) room_1) (lw_P b xs) (fun _ _ _ _ _ => True) lw_Q := by
  refine MetFree.of_bodyS (code := code) (maxLocals := maxLocals) (ret := ret) (by decide) ?_ ?_
  · intro args s m h hn
    obtain ⟨meth, c, h1, h2, h3, h4, h5, h6, -, -⟩ := Cond.code_spec hn (atoms_spec (ws := Jvm.Cond.code x code maxLocals ret :: tables_1) h _ List.mem_cons_self)
    exact ⟨meth, c, h1, h2, h3, h4, h5, h6⟩
  · intro p e s m args below meth c s₁ B hml0 hP _
    obtain ⟨rfl, hx, hbd, hgv⟩ := hP
    obtain ⟨scr, harrAt, hlist, hof, hsmall⟩ := hx
    obtain ⟨hcb, hkn, -, -⟩ := State.arrayAt?_spec harrAt
    have hown : s.vm.findClass R_law = some m.cls := findClass_of_methodNamed B.named
    have hts0 : ∀ c ∈ (Jvm.Cond.code x code maxLocals ret :: tables_1), c.before #[Value.ref b] s = true := atoms_spec (ws := Jvm.Cond.code x code maxLocals ret :: tables_1) B.pre
    have hts : ∀ w ∈ lw_tbl, w.before #[Value.ref b] s = true := k2_hts_sels lw_privs (fun w hw => hts0 w (List.mem_cons_of_mem _ hw)) lw_privs_ok
    have hml : c.maxLocals = 7 := B.maxLocals_eq (hts0 _ List.mem_cons_self)
    have X₀ : Stand p l e room_1 s m #[Value.ref b] below meth c s₁ [] 0 0 := Stand.of_body B
    have hh0 : s₁.heap = s.heap := by rw [B.state]; rfl
    have hsz : scr.slots.size = xs.length := by rw [← Array.length_toList, hlist, List.length_map]
    have hval : ∀ j : Nat, j < xs.length → scr.slots[j]? = some (.int (xs.getD j 0)) := fun j hj => by
      rw [← Array.getElem?_toList, hlist]
      simp [hj]
    have hbl : b < s.heap.size := (Array.getElem?_eq_some_iff.mp hcb).1
    have hX : va_X b xs.length (fun j => xs.getD j 0) s s.heap := ⟨scr, hcb, hof, hkn, hsz, hval⟩
    have K : W p l e room_1 s m #[Value.ref b] below meth c s₁.heap [] 0 0 (lw_Z below #[Value.ref b] s) (entryFrame m ([Value.ref b] : List Value).toArray 7) := by
      rw [hh0]
      exact whole_start l hflags hbd ⟨B.exec, B.bytes, B.returns, hml, hown, hts, hX, hbl, B.notSynchronized, hgv⟩
    obtain ⟨t, a1, o, b1, b2, b3⟩ := K s₁ rfl X₀
    exact ⟨t, o, a1, b1, b2, b3⟩
theorem lw_pre_spec {args : Array Value} {s : State} (h : (Jvm.Cond.and given_1 narrow_1).before args s = true) (hr : rest_1_c.before args s = true) : ∃ (b : Addr) (xs : List Int32), lw_P b xs args s := by
  have hs := flat_of_before _ h
  have hq := flat_of_before _ hr
  have hc : (Cond.count 1).before args s = true := hs _ (by decide +kernel)
  have harr : (Cond.arrayOf (.arg 0) .int).before args s = true := hs _ (by decide +kernel)
  have hle : (Cond.le (.length (.arg 0)) (.int 2560)).before args s = true := hs _ (by decide +kernel)
  have hlen : (Cond.isInt (.length (.arg 0))).before args s = true := hq _ (by decide +kernel)
  have hall : (Cond.all (.arg 0) (.isInt (.elem (.arg 0) (.index 0)))).before args s = true := hq _ (by decide +kernel)
  obtain ⟨b, xs, hb, hx⟩ := State.ints_of_pre rfl harr hlen hall
  have hsm : xs.length < 2 ^ 31 := hx.choose_spec.2.2.2
  have hev : (Term.length (.arg 0)).eval args s none [] s = some (.int xs.length.toInt32) := hx.length_eval hb
  have hv := Cond.le_ints hev (show (Term.int 2560).eval args s none [] s = some (.int 2560) from rfl)
  have hd : xs.length.toInt32 ≤ 2560 := by
    simpa [Cond.before, Cond.holds, hv] using hle
  have hN : xs.length ≤ 2560 := (Int32.ofNat_le_ofNat hsm (by decide)).mp (show Int32.ofNat xs.length ≤ Int32.ofNat 2560 from hd)
  exact ⟨b, xs, Cond.one_arg hc (show args[0]? = some (.ref b) from hb), hx, hN, h⟩
theorem lw_comes (l : Launch) (hflags : l.flags = flags0) : Comes l x (Jvm.Cond.code x code maxLocals ret :: tables_1) room_1 (fun tb e args s => Calls_1 tb e args s ∧ rest_1 tb e args s ∧ Pre_1 tb e args s)
    (fun _ _ args s o t => lw_Q args s o t) := by
  intro p e ha hc hk s m args below hf hfit hheap happ hpre
  obtain ⟨b, xs, hP⟩ := lw_pre_spec hpre.2.2 hpre.2.1
  obtain ⟨k, o, h1, h2, h3, hQ⟩ := lw_walk l hflags b xs p e ha hc hk s m args below hf ((Spec.applies_iff_loose hf).mp happ).1 hP trivial
  exact ⟨k, o, h1, h2, h3, hQ⟩
theorem lw_frame {s t : State} {o : Outcome} {args : Array Value} (h : Framed s o t [] 606944 7275272) :
    Framed s o t (fieldLocs frame_1_writes args s ++ arrayLocs frame_1_arrays args s ++ staticLocs frame_1_statics s) 606944 7275272 := h
theorem lw_limb (L : Cond) (hL : ∀ (args : Array Value) (s t : State), L.after args s (.returned (some (.int 1))) t = true) :
    ArmFor flags0 classFile x code maxLocals ret World_1 tables_1 room_1 Calls_1 rest_1 Pre_1
      (fun tb e a s o t => postC L tb e a s o t ∧ Framed s o t (fieldLocs frame_1_writes a s ++ arrayLocs frame_1_arrays a s ++ staticLocs frame_1_statics s) 606944 7275272) := by
  intro l hflags _ _ p e ha hc hk s m args below hf hfit hheap happ hpre
  obtain ⟨k, o, h1, h2, h3, rfl, hF⟩ := lw_comes l hflags p e ha hc hk s m args below hf hfit hheap happ hpre
  exact ⟨k, _, h1, h2, h3, hL args s _, lw_frame hF⟩
theorem i_vc : Claimed_1_1 ∧ Claimed_1_2 := ⟨lw_limb limb_1_1 (fun args s t => by simp [limb_1_1, Cond.after, Cond.holds, Cond.value]), lw_limb limb_1_2 (fun args s t => Cond.after_iff.mpr (by
  first | (rw [show limb_1_2 = Cond.eq .result (.int 1) from rfl, Cond.eq_ints (x := 1) (y := 1) rfl rfl]; simp; done) | (simp [limb_1_2, Cond.value, Term.eval]; done)))⟩
