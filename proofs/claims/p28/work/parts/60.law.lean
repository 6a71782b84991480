/-! THE CLAIM OUT OF ONE WALK OF THE LAW'S BODY. Your part is whole_start (and what it stands on); all else here is the same for every law, but numbers. -/
def R_law : String := "OfficeholdersRollLaw"
def lw_P (b : Addr) (xs : List Int32) (args : Array Value) (s : State) : Prop := args = #[.ref b] ∧ s.IntsAt b xs ∧ xs.length ≤ 260 ∧ (Jvm.Cond.and given_1 narrow_1).before args s = true
def lw_Q (_ : Array Value) (s : State) (o : Outcome) (t : State) : Prop := o = .returned (some (.int 1)) ∧ Framed s o t [] 673600 7080823
def lw_Z (below : List Frame) (a : Array Value) (s : State) : State → Prop := fun t => ∃ o, t.status = .running ∧ Ended t below o ∧ lw_Q a s o t
/-- the law's own end, with 1 on the stack, nothing written that was there before, its room as the claim has it -/
theorem lw_ret {p : Program} {l : Launch} {e : Env} {s : State} {m : MethodId} {below : List Frame} {meth : Method} {c : Code} {b : Nat} (hx : p.tables.exec = Jvm.exec) (hb : c.code = code) (hr : meth.sig.returnType = ret) (hlocks : meth.locks = false) {pc : Nat} {H : Heap} {ls : Array Slot} (hdg : decode code pc = .ok (.ireturn, 1)) : W p l e room_1 s m #[Value.ref b] below meth c H [] 673600 7080823 (lw_Z below #[Value.ref b] s) (F0 m pc ls [.int 1]) := by
  intro T hT X
  obtain ⟨fs, hret, hrun, hended, hW, hframe⟩ := X.leave (v := some (.int 1)) (hlocks := hlocks) (fun h => by rw [hr] at h; cases h)
  have hmeth' : T.vm.method? m = some meth := X.method'
  refine ⟨T.setFrames fs, ?_, .returned (some (.int 1)), hrun, hended, rfl, ⟨_, rfl⟩, hW, hframe⟩
  jvm_step X.here [X.here.top, hx, hb, hdg, hmeth', hr, ret, narrow_b1]
  (try refine ⟨rfl, ?_⟩); (try refine ⟨rfl, ?_⟩)
  first | (intro acts; rw [hret _ acts rfl rfl rfl]) | rw [hret _ _ rfl rfl rfl]
  exact Steps.refl _
/-- what holds at the law's entry: the machine, the code, the tables' words (any of lw_tbl by 'hts w (by decide +kernel)'), the script of L ints xs at the cell b, what the Statement gives of the start (any of its parts by flat_of_before) -/
def lw_At (p : Program) (s : State) (m : MethodId) (meth : Method) (c : Code) (b L : Nat) (xs : Nat → Int32) : Prop :=
  p.tables.exec = Jvm.exec ∧ c.code = code ∧ meth.sig.returnType = ret ∧ c.maxLocals = 15 ∧ s.vm.findClass R_law = some m.cls ∧ (∀ w ∈ lw_tbl, w.before #[Value.ref b] s = true) ∧ va_X b L xs s s.heap ∧ b < s.heap.size ∧ meth.locks = false ∧ (Jvm.Cond.and given_1 narrow_1).before #[Value.ref b] s = true
-- ===== YOUR PART BEGINS =====
/-- YOUR PART: from the entry, for every script of at most 260 ints, the law comes to its end with true ('hflags': the launch's flags, for a law that throws: no stack traces) -/
theorem lw_strs : ∀ q ∈ q_strs, Cond.stringRef RX5 q.1 q.2 ∈ lw_tbl ∧ Cond.exactly (.string RX5 q.1) "java/lang/String" ∈ flatC (Jvm.Cond.and given_1 narrow_1) := by decide +kernel
theorem lw_tx {s : State} {args : Array Value} (hts : ∀ w ∈ lw_tbl, w.before args s = true) : q_Tx s := fun w hw h2 => by
  have h1 := hts w hw
  match w, h2, h1 with
  | .castable _ _, _, h1 => exact va_Nw.of rfl h1
  | .declares _, _, h1 => exact va_Nw.of rfl h1
  | .methodLinkNest _ _ _ _, _, h1 => exact va_Nw.of rfl h1
theorem lw_D {s : State} (hT : q_Tb s) : ∃ D : va_G, ∀ (k : Nat) (q : vw_C), vwCl[k]? = some q → u_Kn s q.1 q.2.1 q.2.2 (D.1 k) (D.2 k) := by
  obtain ⟨c0, i0, k0⟩ := u_known (C := RX0) (T := TX0) (N := 6) (n := 6) (ws := u_ws RX0 TX0 6) (s := s) (args := #[]) (fun w hw => hT.use (kw_X0 w hw) #[]) (fun w h => h) (hT.use kn_X0 #[])
  obtain ⟨c1, i1, k1⟩ := u_known (C := RX1) (T := TX1) (N := 1) (n := 1) (ws := u_ws RX1 TX1 1) (s := s) (args := #[]) (fun w hw => hT.use (kw_X1 w hw) #[]) (fun w h => h) (hT.use kn_X1 #[])
  obtain ⟨c2, i2, k2⟩ := u_known (C := RX2) (T := TX2) (N := 3) (n := 3) (ws := u_ws RX2 TX2 3) (s := s) (args := #[]) (fun w hw => hT.use (kw_X2 w hw) #[]) (fun w h => h) (hT.use kn_X2 #[])
  obtain ⟨c3, i3, k3⟩ := u_known (C := RX3) (T := TX3) (N := 1) (n := 1) (ws := u_ws RX3 TX3 1) (s := s) (args := #[]) (fun w hw => hT.use (kw_X3 w hw) #[]) (fun w h => h) (hT.use kn_X3 #[])
  obtain ⟨c4, i4, k4⟩ := u_known (C := RX4) (T := TX4) (N := 11) (n := 11) (ws := u_ws RX4 TX4 11) (s := s) (args := #[]) (fun w hw => hT.use (kw_X4 w hw) #[]) (fun w h => h) (hT.use kn_X4 #[])
  obtain ⟨c5, i5, k5⟩ := u_known (C := RX5) (T := TX5) (N := 16) (n := 16) (ws := u_ws RX5 TX5 16) (s := s) (args := #[]) (fun w hw => hT.use (kw_X5 w hw) #[]) (fun w h => h) (hT.use kn_X5 #[])
  refine ⟨(fun k => match k with | 0 => c0 | 1 => c1 | 2 => c2 | 3 => c3 | 4 => c4 | _ => c5, fun k => match k with | 0 => i0 | 1 => i1 | 2 => i2 | 3 => i3 | 4 => i4 | _ => i5), fun k q hq => ?_⟩
  match k, hq with
  | 0, hq => cases hq; exact k0
  | 1, hq => cases hq; exact k1
  | 2, hq => cases hq; exact k2
  | 3, hq => cases hq; exact k3
  | 4, hq => cases hq; exact k4
  | 5, hq => cases hq; exact k5
  | k + 6, hq => simp [vwCl] at hq
theorem lw_cA {s : State} (hT : q_Tb s) : ∃ cA : ClassId, ArrOfT s cA .int ∧ va_RA s cA .int := by
  obtain ⟨cA, kA, comp, h1, h2, h3⟩ := Cond.arrayClass_spec (hT.use ka_int #[])
  exact ⟨cA, fun n z => ⟨fun k h => (by cases h), kA, h2, comp, h3⟩, h1⟩
set_option maxHeartbeats 4000000 in
set_option maxRecDepth 100000 in
theorem lw_loop {p : Program} {l : Launch} {e : Env} {s : State} {m : MethodId} {below : List Frame} {meth : Method} {c : Code} {b0 L : Nat} {xs : Nat → Int32} {D : va_G} {cA : ClassId} {ad : Nat → Nat} (C : lcx p l s m c cL_law 15 D cA (lwA s)) (hr : meth.sig.returnType = ret) (hlk : meth.locks = false) (hXs : va_X b0 L xs s s.heap) (hbl : b0 < s.heap.size) (hL : L ≤ 260) : ∀ (n k : Nat), k ≤ 70 → 71 ≤ k + n → LK p l e s m below meth c b0 D cA ad k (6066 + 512 * k) (40973 + 3072 * k) (lw_Z below #[Value.ref b0] s) 23
  | 0, k, h1, h2 => by omega
  | n + 1, k, h1, h2 => by
    intro g z H locs ls a b hI e0 e2 hP hD hS hl
    subst e0
    subst e2
    have hbA : ¬ lwA s b0 := Nat.not_le.mpr hbl
    refine lv_iload C.hx C.hb dL_law_23 (lv_at hl 4 rfl) ?_
    refine lv_bipush (v := nI 70) C.hx C.hb dL_law_25 (by decide +kernel) ?_
    refine lv_icmp_ge (tgt := 1311) C.hx C.hb dL_law_27 (by decide) (fun c9 => ?_) (fun c9 => ?_)
    · refine va_forget hS.2.2 ?_
      refine W.widen (k := 673600) (n := 7080823) (by omega) (by omega) ?_
      refine lv_iconst (v := 1) C.hx C.hb dL_law_1311 rfl ?_
      exact lw_ret C.hx C.hb hr hlk dL_law_1312
    · have hk : k < 70 := by
        rw [nI_leI (by omega) (by omega)] at c9
        omega
      have hroom : (6066 + 512 * k) + 512 ≤ room_1.cells ∧ (40973 + 3072 * k) + 3072 ≤ room_1.slots := by
        show (6066 + 512 * k) + 512 ≤ 673600 ∧ (40973 + 3072 * k) + 3072 ≤ 7080823
        omega
      have kk5 : LK p l e s m below meth c b0 D cA ad k ((6066 + 512 * k) + 512) ((40973 + 3072 * k) + 3072) (lw_Z below #[Value.ref b0] s) 1305 := fun g2 z2 H2 locs2 ls2 a b hI2 e0 e2 hP2 hD2 hS2 hl2 => by
        refine lv_iinc (v := nI (k + 1)) (lv' := [(4, .int (nI (k + 1))), (0, .ref b0), (1, .ref (ad 70)), (2, .int (nI a)), (3, .int (nI b))]) C.hx C.hb dL_law_1305 hl2 (k := 4) rfl (nI_1 _) (by decide) rfl (fun ls3 hl3 => ?_)
        refine lv_goto (tgt := 23) C.hx C.hb dL_law_1308 (by decide) ?_
        refine W.widen (k := 6066 + 512 * (k + 1)) (n := 40973 + 3072 * (k + 1)) (by omega) (by omega) ?_
        exact lw_loop C hr hlk hXs hbl hL n (k + 1) (by omega) (by omega) g2 z2 H2 locs2 ls3 a b hI2 e0 e2 hP2 hD2 hS2 (lv_sub hl3 [1, 2, 3, 4, 0] rfl)
      refine lv_aload_n C.hx C.hb dL_law_30 rfl (lv_at hl 0 rfl) ?_
      refine va_slen C.hx C.hb hXs hbl hbA hS dL_law_31 ?_
      refine lv_if_ne (tgt := 43) C.hx C.hb dL_law_32 (by decide) (fun c8 => ?_) (fun _ => ?_)
      · have h0 : 0 < L := Nat.pos_of_ne_zero (fun q => c8 (by rw [q]; rfl))
        have hm : k % L < L := Nat.mod_lt _ h0
        refine lv_aload_n C.hx C.hb dL_law_43 rfl (lv_at hl 0 rfl) ?_
        refine lv_iload C.hx C.hb dL_law_44 (lv_at hl 4 rfl) ?_
        refine lv_aload_n C.hx C.hb dL_law_46 rfl (lv_at hl 0 rfl) ?_
        refine va_slen C.hx C.hb hXs hbl hbA hS dL_law_47 ?_
        refine lv_irem C.hx C.hb dL_law_48 c8 ?_
        refine q_top (y := nI (k % L)) (pk_rem (by omega) h0 (by omega)) ?_
        refine va_sld C.hx C.hb hXs hbl hbA hS (vp_in_nI hm (by omega)) dL_law_49 ?_
        refine lv_bipush (v := nI 8) C.hx C.hb dL_law_50 (by decide +kernel) ?_
        obtain ⟨x, hx9, ex⟩ := ush8 (xs (nI (k % L)).toNatClampNeg)
        refine lv_iushr (v := nI x) C.hx C.hb dL_law_52 ex ?_
        exact lc_turn C hroom hI hx9 hk kk5 H locs ls hP hD hS hl
      · refine lv_bipush (v := nI 107) C.hx C.hb dL_law_35 (by decide +kernel) ?_
        refine lv_iload C.hx C.hb dL_law_37 (lv_at hl 4 rfl) ?_
        refine lv_imul C.hx C.hb dL_law_39 ?_
        refine q_top (y := nI (107 * k)) (pk_mul _ _) ?_
        refine lv_goto (tgt := 53) C.hx C.hb dL_law_40 (by decide) ?_
        exact lc_turn C hroom hI (by omega) hk kk5 H locs ls hP hD hS hl
set_option maxHeartbeats 4000000 in
set_option maxRecDepth 100000 in
theorem whole_start {p : Program} {e : Env} {s : State} {m : MethodId} {below : List Frame} {meth : Method} {c : Code} (l : Launch) (hflags : l.flags = flags0) {b L : Nat} {xs : Nat → Int32} (hL : L ≤ 260) (C0 : lw_At p s m meth c b L xs) : W p l e room_1 s m #[Value.ref b] below meth c s.heap [] 0 0 (lw_Z below #[Value.ref b] s) (entryFrame m ([Value.ref b] : List Value).toArray 15) := by
  obtain ⟨hx, hb, hr, hml, hown, hts, hXs, hbl, hlocks, hgv⟩ := id C0
  have hs := flat_of_before _ hgv
  have hT : q_Tb s := fun w hw => word_at (State.WarmedH.refl s) (good_of_word hw.2) (hts w hw.1)
  have hTx : q_Tx s := lw_tx hts
  have hStr : q_Str s := fun q hq => by
    obtain ⟨h1, h2⟩ := lw_strs q hq
    obtain ⟨a, c9, cA9, kA9, q1, -⟩ := Cond.exactly_spec (args := #[Value.ref b]) (first := s) (o := none) (s := s) (idx := []) (t := .string RX5 q.1) (cls := "java/lang/String") (hs _ h2)
    exact ⟨a, vk_R.of (hts _ h1) q1⟩
  have hN : q_Nc s := ⟨va_Nc.of (hs _ (by decide +kernel)), va_Nc.of (hs _ (by decide +kernel)), va_Nc.of (hs _ (by decide +kernel))⟩
  have hZ : q_Zz (fun q : Nat => s.heap.size ≤ q) s s.heap := ⟨vx_Zqof (hts _ (by decide +kernel)) (hts _ (by decide +kernel)) (hs _ (by decide +kernel)) (fun a h => Nat.not_le.mpr h), vx_Zqof (hts _ (by decide +kernel)) (hts _ (by decide +kernel)) (hs _ (by decide +kernel)) (fun a h => Nat.not_le.mpr h)⟩
  have htr : l.stackTraces = false := by
    unfold Launch.stackTraces; rw [hflags]; decide
  obtain ⟨D, hKc⟩ := lw_D hT
  obtain ⟨cA, hA1, hA2⟩ := lw_cA hT
  have hA : ∀ q : Nat, s.heap.size ≤ q → lwA s q := fun _ h => h
  have hS : va_S (lwA s) s.heap s.heap [] := va_S.rf
  have hK : va_K D vwCl [(cA, .int)] s := ⟨hKc, fun k q h => by
    match k, h with
    | 0, h => cases h; exact ⟨hA1, hA2⟩
    | k + 1, h => simp at h⟩
  have hP : va_P D vwCl [] s.heap := fun k q h => by simp at h
  have hD : va_D (lwA s) [] := ⟨fun i j p q h => by simp at h, fun k q h => by simp at h⟩
  have hl := lv_entry ([.ref b]) (n := 15) (Nat.le_of_ble_eq_true rfl)
  rw [lg_entry_eq]
  generalize (lg_sl ([.ref b]) ++ List.replicate (15 - (lg_sl ([.ref b])).length) Slot.unset).toArray = ls at hl ⊢
  have hl : lv_has ls 15 [(0, .ref b)] := hl
  have hown : s.vm.findClass RL = some m.cls := hown
  have C : lcx p l s m c cL_law 15 D cA (lwA s) := ⟨hx, hb, hml, hown, hT, hK, hA, ⟨hTx, hStr⟩, hN, hZ, htr⟩
  refine q_callE (As := []) (r := nI 1) (c2 := 6000) (s2 := 40000) hx hb hml hown hT hK hP hD hS hA ⟨hTx, hStr⟩ hN hZ (t_roll htr) k_L_roll kl_L_137 hl rfl rfl (Nat.le_of_ble_eq_true rfl) ⟨Nat.le_of_ble_eq_true rfl, Nat.le_of_ble_eq_true rfl⟩ ⟨Nat.le_of_ble_eq_true rfl, Nat.le_of_ble_eq_true rfl⟩ ⟨Nat.le_of_ble_eq_true rfl, Nat.le_of_ble_eq_true rfl⟩ dL_law_0 (fun H locs hP hD hS => ?_)
  refine lv_if_ne (tgt := 8) hx hb dL_law_3 (by decide) (fun _ => ?_) (fun c9 => absurd c9 (by decide +kernel))
  refine q_new (N := 16) (ci := 5) hx hb hT hown kw_X5 tyX5 tyX5_ok kx_L_8 kn_X5 ki_OfficeholdersRoll hK hP hD hS hA rfl [.null, .null, .null, .null, .null, .null, .null, .null, .null, .null, .null, .null, .null, .null, .null, .int 0] q_fs_X5 (Nat.le_of_ble_eq_true rfl) (Nat.le_of_ble_eq_true rfl) dL_law_8 (fun q5 H hP hD hS => ?_)
  refine lv_dup hx hb dL_law_11 rfl ?_
  refine q_callN (rest := [.ref q5]) (As := []) (mc := 65) (ms := 957) (wr := []) hx hb hml hown hT hTx hK hP hD hS hA (c_X5_init l D cA q5) k_X5_init kl_L_108 hl rfl rfl (Nat.le_of_ble_eq_true rfl) ⟨⟨rfl, rfl⟩, Nat.le_of_ble_eq_true rfl, Nat.le_of_ble_eq_true rfl⟩ ⟨Nat.le_of_ble_eq_true rfl, Nat.le_of_ble_eq_true rfl⟩ dL_law_12 (fun ad H locs hu hP hD hS => ?_)
  have hP : va_P D vwCl (rlW cA ad g5_0 (fun _ => 0)) H := hP
  have hD : va_D (lwA s) (rlW cA ad g5_0 (fun _ => 0)) := hD
  refine lv_astore_n (lv' := [(1, .ref q5), (0, .ref b)]) hx hb dL_law_15 rfl hl (by decide) rfl (fun ls hl => ?_)
  refine lv_iconst (v := nI 0) hx hb dL_law_16 (by decide +kernel) ?_
  refine lv_istore_n (lv' := [(2, .int (nI 0)), (1, .ref q5), (0, .ref b)]) hx hb dL_law_17 rfl hl (by decide) rfl (fun ls hl => ?_)
  refine lv_iconst (v := nI 0) hx hb dL_law_18 (by decide +kernel) ?_
  refine lv_istore_n (lv' := [(3, .int (nI 0)), (2, .int (nI 0)), (1, .ref q5), (0, .ref b)]) hx hb dL_law_19 rfl hl (by decide) rfl (fun ls hl => ?_)
  refine lv_iconst (v := nI 0) hx hb dL_law_20 (by decide +kernel) ?_
  refine lv_istore (lv' := [(4, .int (nI 0)), (3, .int (nI 0)), (2, .int (nI 0)), (1, .ref q5), (0, .ref b)]) hx hb dL_law_21 hl (by decide) rfl (fun ls hl => ?_)
  refine W.widen (k := 6066 + 512 * 0) (n := 40973 + 3072 * 0) (Nat.le_of_ble_eq_true rfl) (Nat.le_of_ble_eq_true rfl) ?_
  exact lw_loop C hr hlocks hXs hbl hL 71 0 (by omega) (by omega) g5_0 (fun _ => 0) H locs ls 0 0 iv_new rfl rfl hP hD hS (by show lv_has ls 15 [(0, .ref b), (1, .ref (ad 70)), (2, .int (nI 0)), (3, .int (nI 0)), (4, .int (nI 0))]; rw [hu]; exact lv_sub hl [4, 3, 2, 1, 0] rfl)
set_option maxHeartbeats 4000000 in
theorem lw_walk (l : Launch) (hflags : l.flags = flags0) (b : Addr) (xs : List Int32) : MetFree l x (headSpec (Jvm.Cond.code x code maxLocals ret :: tables_1) room_1) (lw_P b xs) (fun _ _ _ _ _ => True) lw_Q := by
  refine MetFree.of_bodyS (code := code) (maxLocals := maxLocals) (ret := ret) (by decide) ?_ ?_
  · intro args s m h hn
    obtain ⟨meth, c, h1, h2, h3, h4, h5, h6, -, -⟩ := Cond.code_spec hn (atoms_spec (ws := Jvm.Cond.code x code maxLocals ret :: tables_1) h _ List.mem_cons_self)
    exact ⟨meth, c, h1, h2, h3, h4, h5, h6⟩
  · intro p e s m args below meth c s₁ B hml0 hP _
    obtain ⟨rfl, hx, hbd, hgv⟩ := hP
    obtain ⟨scr, harrAt, hlist, hof, hsmall⟩ := hx
    obtain ⟨hcb, hkn, -, -⟩ := State.arrayAt?_spec harrAt
    have hown : s.vm.findClass R_law = some m.cls := findClass_of_methodNamed B.named
    have hts0 : ∀ c ∈ (Jvm.Cond.code x code maxLocals ret :: tables_1), c.before #[Value.ref b] s = true := atoms_spec (ws := Jvm.Cond.code x code maxLocals ret :: tables_1) B.pre
    have hts : ∀ w ∈ lw_tbl, w.before #[Value.ref b] s = true := k2_hts_sels lw_privs (fun w hw => hts0 w (List.mem_cons_of_mem _ hw)) lw_privs_ok
    have hml : c.maxLocals = 15 := B.maxLocals_eq (hts0 _ List.mem_cons_self)
    have X₀ : Stand p l e room_1 s m #[Value.ref b] below meth c s₁ [] 0 0 := Stand.of_body B
    have hh0 : s₁.heap = s.heap := by rw [B.state]; rfl
    have hsz : scr.slots.size = xs.length := by rw [← Array.length_toList, hlist, List.length_map]
    have hval : ∀ j : Nat, j < xs.length → scr.slots[j]? = some (.int (xs.getD j 0)) := fun j hj => by
      rw [← Array.getElem?_toList, hlist]
      simp [hj]
    have hbl : b < s.heap.size := (Array.getElem?_eq_some_iff.mp hcb).1
    have hX : va_X b xs.length (fun j => xs.getD j 0) s s.heap := ⟨scr, hcb, hof, hkn, hsz, hval⟩
    have K : W p l e room_1 s m #[Value.ref b] below meth c s₁.heap [] 0 0 (lw_Z below #[Value.ref b] s) (entryFrame m ([Value.ref b] : List Value).toArray 15) := by
      rw [hh0]
      exact whole_start l hflags hbd ⟨B.exec, B.bytes, B.returns, hml, hown, hts, hX, hbl, B.notSynchronized, hgv⟩
    obtain ⟨t, a1, o, b1, b2, b3⟩ := K s₁ rfl X₀
    exact ⟨t, o, a1, b1, b2, b3⟩
theorem lw_pre_spec {args : Array Value} {s : State} (h : (Jvm.Cond.and given_1 narrow_1).before args s = true) (hr : rest_1_c.before args s = true) : ∃ (b : Addr) (xs : List Int32), lw_P b xs args s := by
  have hs := flat_of_before _ h
  have hq := flat_of_before _ hr
  have hc : (Cond.count 1).before args s = true := hs _ (by decide +kernel)
  have harr : (Cond.arrayOf (.arg 0) .int).before args s = true := hs _ (by decide +kernel)
  have hle : (Cond.le (.length (.arg 0)) (.int 260)).before args s = true := hs _ (by decide +kernel)
  have hlen : (Cond.isInt (.length (.arg 0))).before args s = true := hq _ (by decide +kernel)
  have hall : (Cond.all (.arg 0) (.isInt (.elem (.arg 0) (.index 0)))).before args s = true := hq _ (by decide +kernel)
  obtain ⟨b, xs, hb, hx⟩ := State.ints_of_pre rfl harr hlen hall
  have hsm : xs.length < 2 ^ 31 := hx.choose_spec.2.2.2
  have hev : (Term.length (.arg 0)).eval args s none [] s = some (.int xs.length.toInt32) := hx.length_eval hb
  have hv := Cond.le_ints hev (show (Term.int 260).eval args s none [] s = some (.int 260) from rfl)
  have hd : xs.length.toInt32 ≤ 260 := by
    simpa [Cond.before, Cond.holds, hv] using hle
  have hN : xs.length ≤ 260 := (Int32.ofNat_le_ofNat hsm (by decide)).mp (show Int32.ofNat xs.length ≤ Int32.ofNat 260 from hd)
  exact ⟨b, xs, Cond.one_arg hc (show args[0]? = some (.ref b) from hb), hx, hN, h⟩
theorem lw_comes (l : Launch) (hflags : l.flags = flags0) : Comes l x (Jvm.Cond.code x code maxLocals ret :: tables_1) room_1 (fun tb e args s => Calls_1 tb e args s ∧ rest_1 tb e args s ∧ Pre_1 tb e args s)
    (fun _ _ args s o t => lw_Q args s o t) := by
  intro p e ha hc hk s m args below hf hfit hheap happ hpre
  obtain ⟨b, xs, hP⟩ := lw_pre_spec hpre.2.2 hpre.2.1
  obtain ⟨k, o, h1, h2, h3, hQ⟩ := lw_walk l hflags b xs p e ha hc hk s m args below hf ((Spec.applies_iff_loose hf).mp happ).1 hP trivial
  exact ⟨k, o, h1, h2, h3, hQ⟩
theorem lw_frame {s t : State} {o : Outcome} {args : Array Value} (h : Framed s o t [] 673600 7080823) :
    Framed s o t (fieldLocs frame_1_writes args s ++ arrayLocs frame_1_arrays args s ++ staticLocs frame_1_statics s) 673600 7080823 := h
theorem lw_limb (L : Cond) (hL : ∀ (args : Array Value) (s t : State), L.after args s (.returned (some (.int 1))) t = true) :
    ArmFor flags0 classFile x code maxLocals ret World_1 tables_1 room_1 Calls_1 rest_1 Pre_1
      (fun tb e a s o t => postC L tb e a s o t ∧ Framed s o t (fieldLocs frame_1_writes a s ++ arrayLocs frame_1_arrays a s ++ staticLocs frame_1_statics s) 673600 7080823) := by
  intro l hflags _ _ p e ha hc hk s m args below hf hfit hheap happ hpre
  obtain ⟨k, o, h1, h2, h3, rfl, hF⟩ := lw_comes l hflags p e ha hc hk s m args below hf hfit hheap happ hpre
  exact ⟨k, _, h1, h2, h3, hL args s _, lw_frame hF⟩
theorem i_vc : Claimed_1_1 ∧ Claimed_1_2 := ⟨lw_limb limb_1_1 (fun args s t => by simp [limb_1_1, Cond.after, Cond.holds, Cond.value]), lw_limb limb_1_2 (fun args s t => Cond.after_iff.mpr (by
  first | (rw [show limb_1_2 = Cond.eq .result (.int 1) from rfl, Cond.eq_ints (x := 1) (y := 1) rfl rfl]; simp; done) | (simp [limb_1_2, Cond.value, Term.eval]; done)))⟩

