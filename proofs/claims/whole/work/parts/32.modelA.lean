abbrev mdW (cA : ClassId) (ad : Nat → Nat) (g : Nat → Nat → Int32) (z : Nat → Nat) : va_W := [(ad 80, .inr (6, [.int (nI (z 0)), .ref (ad 0), .ref (ad 1), .ref (ad 2), .ref (ad 3), .ref (ad 5), .ref (ad 8), .ref (ad 9), .ref (ad 10), .ref (ad 11), .ref (ad 4), .ref (ad 12), .ref (ad 13), .ref (ad 17), .ref (ad 18), .ref (ad 19), .ref (ad 20), .int (nI (z 1)), .ref (ad 14), .ref (ad 15), .ref (ad 16), .int (nI (z 2)), .ref (ad 22), .ref (ad 23), .ref (ad 7), .ref (ad 24), .ref (ad 27), .int (nI (z 4))])), (ad 0, .inl (cA, 16, .inl (g 0))), (ad 1, .inl (cA, 16, .inl (g 1))), (ad 2, .inl (cA, 16, .inl (g 2))), (ad 3, .inl (cA, 16, .inl (g 3))), (ad 5, .inl (cA, 8, .inl (g 5))), (ad 8, .inl (cA, 8, .inl (g 8))), (ad 9, .inl (cA, 16, .inl (g 9))), (ad 10, .inl (cA, 16, .inl (g 10))), (ad 11, .inl (cA, 16, .inl (g 11))), (ad 4, .inl (cA, 16, .inl (g 4))), (ad 12, .inl (cA, 16, .inl (g 12))), (ad 13, .inl (cA, 16, .inl (g 13))), (ad 17, .inl (cA, 16, .inl (g 17))), (ad 18, .inl (cA, 16, .inl (g 18))), (ad 19, .inl (cA, 16, .inl (g 19))), (ad 20, .inl (cA, 16, .inl (g 20))), (ad 14, .inl (cA, 40, .inl (g 14))), (ad 15, .inl (cA, 40, .inl (g 15))), (ad 16, .inl (cA, 40, .inl (g 16))), (ad 22, .inl (cA, 16, .inl (g 22))), (ad 23, .inl (cA, 40, .inl (g 23))), (ad 7, .inl (cA, 40, .inl (g 7))), (ad 24, .inl (cA, 6, .inl (g 24))), (ad 27, .inl (cA, 64, .inl (g 27)))]
def mdW_a (ad : Nat → Nat) : List Nat := [ad 80, ad 0, ad 1, ad 2, ad 3, ad 5, ad 8, ad 9, ad 10, ad 11, ad 4, ad 12, ad 13, ad 17, ad 18, ad 19, ad 20, ad 14, ad 15, ad 16, ad 22, ad 23, ad 7, ad 24, ad 27]
theorem mdW_adr (cA : ClassId) (ad : Nat → Nat) (g : Nat → Nat → Int32) (z : Nat → Nat) : (mdW cA ad g z).map Prod.fst = mdW_a ad := rfl
/-! the reference -/
def iN (x lo hi : Int32) : Bool := decide (¬ x < lo ∧ x ≤ hi)
def mB (w : Int32) (n : Nat) : Bool := decide (¬ w < 0 ∧ w < nI n)
theorem mB_t {w : Int32} {n : Nat} (h : mB w n = true) (hn : n ≤ 1000) : q_r w n := (q_r.iff (by omega)).1 (of_decide_eq_true h)
theorem mB_f {w : Int32} {n : Nat} (h : mB w n = false) (hn : n ≤ 1000) : ¬ q_r w n := fun z => of_decide_eq_false h ((q_r.iff (by omega)).2 z)
theorem iN_m {w : Int32} {n : Nat} (hn : n ≤ 1000) : iN w (nI 0) (nI n - nI 1) = mB w n := by
  unfold iN mB
  congr 1
  apply propext
  have e : (nI n - nI 1).toInt = (n : Int) - 1 := by simpa using pk_sub_toInt (a := n) (b := 1) (by omega) (by omega)
  have e2 : (nI n).toInt = (n : Int) := nI_toInt (by omega)
  show (¬ w < 0 ∧ w ≤ nI n - nI 1) ↔ _
  rw [Int32.le_iff_toInt_le, Int32.lt_iff_toInt_lt (y := nI n), e, e2]
  constructor
  · exact fun h => ⟨h.1, by omega⟩
  · exact fun h => ⟨h.1, by omega⟩
theorem iN_8 {w : Int32} : iN w (nI 0) (nI 7) = mB w 8 := by
  have h := iN_m (w := w) (n := 8) (by omega)
  rwa [show nI 8 - nI 1 = nI 7 by decide +kernel] at h
theorem q_and1 (x : Int32) : x &&& nI 1 = nI 0 ∨ x &&& nI 1 = nI 1 := by
  obtain ⟨j, h1, h2⟩ := pk_andE x (m := nI 1) 1 (by decide +kernel)
  rcases (show j = 0 ∨ j = 1 by omega) with h | h <;> subst h
  · exact Or.inl h2
  · exact Or.inr h2
theorem hasB_t1 {x y : Int32} (h : ((x >>> (y &&& 31)) &&& nI 1) = nI 1) : hasB x y = true := hasB_t (by rw [h]; decide +kernel)
theorem hasB_f1 {x y : Int32} (h : ¬ ((x >>> (y &&& 31)) &&& nI 1) = nI 1) : hasB x y = false := hasB_f ((q_and1 _).resolve_right h)
theorem q_addb (n : Nat) (b : Bool) : nI n + q_b b = nI (n + bif b then 1 else 0) := by cases b <;> exact nI_add _ _
theorem q_b_and (a b : Bool) : q_b a &&& q_b b = q_b (a && b) := by cases a <;> cases b <;> decide +kernel
theorem q_b_orb (a b : Bool) : q_b a ||| q_b b = q_b (a || b) := by cases a <;> cases b <;> decide +kernel
theorem mvd_addb {F L F0 L0 : Nat → Int32} {k : Nat} : nI (mvd F L F0 L0 k) + q_b (decide (¬ (F k = F0 k ∧ L k = L0 k))) = nI (mvd F L F0 L0 (k + 1)) := by
  rw [q_addb, mvd]
  by_cases h : F k = F0 k ∧ L k = L0 k
  · rw [if_pos h, decide_eq_false (fun z => z h)]; rfl
  · rw [if_neg h, decide_eq_true h]; rfl
theorem cntN_addb {f : Nat → Int32} {w : Int32} {k : Nat} : nI (cntN f w k) + q_b (decide (f k = w)) = nI (cntN f w (k + 1)) := by
  rw [q_addb, cntN]
  by_cases h : f k = w
  · rw [if_pos h, decide_eq_true h]; rfl
  · rw [if_neg h, decide_eq_false h]; rfl
/-- whether all may be so, of the first k -/
def mayN (F L lo hi : Nat → Int32) : Nat → Bool
  | 0 => true
  | k + 1 => mayN F L lo hi k && decide (F k ≤ hi k ∧ ¬ L k < lo k ∧ F k ≤ L k)
abbrev dtT := (Nat → Int32) × (Nat → Int32) × Bool × Bool
def dtP (a b w lo hi : Nat → Int32) (t n : Nat) (q : dtT) : dtT := (psF a b w q.1 t, psL a b w q.2.1 t, mayN (psF a b w q.1 t) (psL a b w q.2.1 t) lo hi n, psC a b w q.1 q.2.1 t)
def dtR (a b w lo hi : Nat → Int32) (t n : Nat) : Nat → dtT → dtT
  | 0, q => q
  | u + 1, q => if q.2.2.1 = true ∧ q.2.2.2 = true then dtR a b w lo hi t n u (dtP a b w lo hi t n q) else q
def dtE (a b w lo hi : Nat → Int32) (t n : Nat) : Nat → dtT → Prop
  | 0, q => ¬ (q.2.2.1 = true ∧ q.2.2.2 = true)
  | u + 1, q => (q.2.2.1 = true ∧ q.2.2.2 = true) → dtE a b w lo hi t n u (dtP a b w lo hi t n q)
theorem dtR_stop {a b w lo hi : Nat → Int32} {t n : Nat} {q : dtT} (h : ¬ (q.2.2.1 = true ∧ q.2.2.2 = true)) : ∀ u, dtR a b w lo hi t n u q = q
  | 0 => rfl
  | u + 1 => by rw [dtR, if_neg h]
theorem dtR_go {a b w lo hi : Nat → Int32} {t n u : Nat} {q : dtT} (h : q.2.2.1 = true ∧ q.2.2.2 = true) : dtR a b w lo hi t n (u + 1) q = dtR a b w lo hi t n u (dtP a b w lo hi t n q) := by rw [dtR, if_pos h]
def prB (g : Nat → Nat → Int32) (r k m : Nat) : Bool := if r = 2 then hasB (g 10 k) (nI m) else if r = 3 then hof (g 1 k) (g 1 m) else abo g k m
def hrI (g : Nat → Nat → Int32) (r i j : Nat) (acc : Bool) (k : Nat) : Nat → Bool
  | 0 => acc
  | m + 1 => if g 22 k = g 22 i ∧ g 22 m = g 22 j then (hrI g r i j acc k m || prB g r k m) else hrI g r i j acc k m
def hrO (g : Nat → Nat → Int32) (n r i j : Nat) : Nat → Bool
  | 0 => false
  | k + 1 => hrI g r i j (hrO g n r i j k) k n
theorem hrI_t {g : Nat → Nat → Int32} {r i j k m : Nat} {acc : Bool} (h : g 22 k = g 22 i) (h2 : g 22 m = g 22 j) : (hrI g r i j acc k m || prB g r k m) = hrI g r i j acc k (m + 1) := by rw [hrI, if_pos ⟨h, h2⟩]
theorem hrI_f {g : Nat → Nat → Int32} {r i j k m : Nat} {acc : Bool} (h : ¬ (g 22 k = g 22 i ∧ g 22 m = g 22 j)) : hrI g r i j acc k m = hrI g r i j acc k (m + 1) := by rw [hrI, if_neg h]
def rsN (g : Nat → Nat → Int32) (n i j : Nat) : Nat := if g 22 i = g 22 j then 1 else if hrO g n 2 i j n = true then 2 else if hrO g n 3 i j n = true then 3 else if hrO g n 4 i j n = true then 4 else if wtN g i j < 4 then 5 else 0
theorem rsN_k {g : Nat → Nat → Int32} {n i j k : Nat} (h : ¬ g 22 i = g 22 j) (h2 : 2 ≤ k) (h5 : k < 5) (hp : ∀ r, 2 ≤ r → r < k → hrO g n r i j n = false) (hk : hrO g n k i j n = true) : rsN g n i j = k := by
  rw [rsN, if_neg h]
  rcases (show k = 2 ∨ k = 3 ∨ k = 4 by omega) with e | e | e <;> subst e
  · rw [if_pos hk]
  · rw [if_neg (by rw [hp 2 (by omega) (by omega)]; exact Bool.false_ne_true), if_pos hk]
  · rw [if_neg (by rw [hp 2 (by omega) (by omega)]; exact Bool.false_ne_true), if_neg (by rw [hp 3 (by omega) (by omega)]; exact Bool.false_ne_true), if_pos hk]
theorem rsN_5 {g : Nat → Nat → Int32} {n i j : Nat} (h : ¬ g 22 i = g 22 j) (hp : ∀ r, 2 ≤ r → r < 5 → hrO g n r i j n = false) : rsN g n i j = if wtN g i j < 4 then 5 else 0 := by
  rw [rsN, if_neg h, if_neg (by rw [hp 2 (by omega) (by omega)]; exact Bool.false_ne_true), if_neg (by rw [hp 3 (by omega) (by omega)]; exact Bool.false_ne_true), if_neg (by rw [hp 4 (by omega) (by omega)]; exact Bool.false_ne_true)]
def ab1 (g : Nat → Nat → Int32) (i j : Nat) : Bool := decide (¬ g 3 i = (-1) ∧ ¬ g 3 j = (-1) ∧ hasB (rAt 8 (g 8) (g 3 i)) (g 3 j) = true)
theorem abo_t {g : Nat → Nat → Int32} {i j : Nat} (h : ab1 g i j = true) (h1 : g 17 i = g 18 i) (h2 : g 17 j = g 18 j) (h3 : g 17 i = g 17 j) : abo g i j = true := by
  have h4 := of_decide_eq_true h
  exact decide_eq_true ⟨h4.1, h4.2.1, h4.2.2, h1, h2, h3⟩
theorem abo_f {g : Nat → Nat → Int32} {i j : Nat} (h : ab1 g i j = false ∨ ¬ (g 17 i = g 18 i ∧ g 17 j = g 18 j ∧ g 17 i = g 17 j)) : abo g i j = false := by
  refine decide_eq_false (fun z => ?_)
  rcases h with h | h
  · exact of_decide_eq_false h ⟨z.1, z.2.1, z.2.2.1⟩
  · exact h z.2.2.2
theorem kn_t {x y : Int32} (h : x = y) (h2 : ¬ x = (-1)) : kn x y = true := decide_eq_true ⟨h, h2⟩
theorem kn_f1 {x y : Int32} (h : x = (-1)) : ¬ kn x y = true := fun z => (of_decide_eq_true z).2 h
theorem kn_f2 {x y : Int32} (h : ¬ x = y) : ¬ kn x y = true := fun z => h (of_decide_eq_true z).1
/-- careers by counting -/
def icB (g : Nat → Nat → Int32) (w : Int32) (i : Nat) : Bool := decide (g 22 i = w ∧ ¬ g 3 i = (-1))
def ieB (g : Nat → Nat → Int32) (i j : Nat) : Bool := decide (g 17 i < g 17 j ∨ (g 17 i = g 17 j ∧ i < j))
def icE (g : Nat → Nat → Int32) (w : Int32) (k : Nat) : Nat → Nat
  | 0 => 0
  | m + 1 => if icB g w m = true ∧ ieB g m k = true then icE g w k m + 1 else icE g w k m
def icF (g : Nat → Nat → Int32) (w : Int32) (n p : Nat) : Nat → Int32
  | 0 => (-1)
  | k + 1 => if icB g w k = true ∧ icE g w k n = p then nI k else icF g w n p k
theorem icE_le (g : Nat → Nat → Int32) (w : Int32) (k : Nat) : ∀ m, icE g w k m ≤ m
  | 0 => Nat.le_refl 0
  | m + 1 => by
    have := icE_le g w k m
    rw [icE]; split <;> omega
theorem icE_addb {g : Nat → Nat → Int32} {w : Int32} {k m : Nat} : nI (icE g w k m) + q_b (icB g w m && ieB g m k) = nI (icE g w k (m + 1)) := by
  rw [q_addb, icE]
  cases h1 : icB g w m <;> cases h2 : ieB g m k <;> simp
theorem icF_t {g : Nat → Nat → Int32} {w : Int32} {n p k : Nat} (h : icB g w k = true) (h2 : icE g w k n = p) : nI k = icF g w n p (k + 1) := by rw [icF, if_pos ⟨h, h2⟩]
theorem icF_f {g : Nat → Nat → Int32} {w : Int32} {n p k : Nat} (h : ¬ (icB g w k = true ∧ icE g w k n = p)) : icF g w n p k = icF g w n p (k + 1) := by rw [icF, if_neg h]
abbrev rm_X6_thrown : Room := { frames := 0, cells := 0, slots := 0, locals := 0 }
set_option maxRecDepth 100000 in
set_option maxHeartbeats 4000000 in
theorem c_X6_thrown (l : Launch) (D : va_G) (cA : ClassId) (ad : Nat → Nat) (g : Nat → Nat → Int32) (z : Nat → Nat)   : q_CI l yX6_thrown [Cond.code yX6_thrown cX6_thrown 1 (some .int)] rm_X6_thrown D cA [.ref (ad 80)] (mdW cA ad g z) (nI (z 4)) (mdW cA ad g z) := by
  refine q_startI RX6 (by decide +kernel) rfl (Nat.le_of_ble_eq_true rfl) ?_
  intro p e s m below meth c A args H locs ls hx hb hr hml hown hT hlk hP hK hD hA hS hl
  have hl : lv_has ls 1 [(0, .ref (ad 80))] := hl
  refine lv_aload_n hx hb dX6_thrown_0 rfl (lv_at hl 0 rfl) ?_
  refine q_get hx hb hT hown hK hP kw_X6 0 rfl rfl 27 (by decide) kf_X6_82 rfl (v := .int (nI (z 4))) rfl dX6_thrown_1 ?_
  exact q_iret hx hb hr hlk (by rfl) hP hS dX6_thrown_4
abbrev rm_X6_isIn : Room := { frames := 0, cells := 0, slots := 0, locals := 0 }
set_option maxRecDepth 100000 in
set_option maxHeartbeats 4000000 in
theorem c_X6_isIn (l : Launch) (D : va_G) (cA : ClassId) (x : Int32) (lo : Int32) (hi : Int32)  : q_CI l yX6_isIn [Cond.code yX6_isIn cX6_isIn 3 (some .boolean)] rm_X6_isIn D cA [.int x, .int lo, .int hi] ([] : va_W) (q_b (iN x lo hi)) ([] : va_W) := by
  refine q_startI RX6 (by decide +kernel) rfl (Nat.le_of_ble_eq_true rfl) ?_
  intro p e s m below meth c A args H locs ls hx hb hr hml hown hT hlk hP hK hD hA hS hl
  have hl : lv_has ls 3 [(0, .int x), (1, .int lo), (2, .int hi)] := hl
  refine lv_iload_n hx hb dX6_isIn_0 rfl (lv_at hl 0 rfl) ?_
  refine lv_iload_n hx hb dX6_isIn_1 rfl (lv_at hl 1 rfl) ?_
  refine lv_icmp_lt (tgt := 14) hx hb dX6_isIn_2 (by decide) (fun c_2 => ?_) (fun c_2 => ?_)
  · refine lv_iconst (v := nI 0) hx hb dX6_isIn_14 (by decide +kernel) ?_
    exact q_zret hx hb hr hlk (Or.inl rfl) (by first | exact q_bt (decide_eq_true ⟨c_2, Int32.not_lt.mp c_7⟩) | exact q_bf (decide_eq_false (fun h => h.1 c_2)) | exact q_bf (decide_eq_false (fun h => Int32.not_lt.mpr h.2 c_7))) hP hS dX6_isIn_15
  · refine lv_iload_n hx hb dX6_isIn_5 rfl (lv_at hl 0 rfl) ?_
    refine lv_iload_n hx hb dX6_isIn_6 rfl (lv_at hl 2 rfl) ?_
    refine lv_icmp_gt (tgt := 14) hx hb dX6_isIn_7 (by decide) (fun c_7 => ?_) (fun c_7 => ?_)
    · refine lv_iconst (v := nI 0) hx hb dX6_isIn_14 (by decide +kernel) ?_
      exact q_zret hx hb hr hlk (Or.inl rfl) (by first | exact q_bt (decide_eq_true ⟨c_2, Int32.not_lt.mp c_7⟩) | exact q_bf (decide_eq_false (fun h => h.1 c_2)) | exact q_bf (decide_eq_false (fun h => Int32.not_lt.mpr h.2 c_7))) hP hS dX6_isIn_15
    · refine lv_iconst (v := nI 1) hx hb dX6_isIn_10 (by decide +kernel) ?_
      refine lv_goto (tgt := 15) hx hb dX6_isIn_11 (by decide) ?_
      exact q_zret hx hb hr hlk (Or.inr rfl) (by first | exact q_bt (decide_eq_true ⟨c_2, Int32.not_lt.mp c_7⟩) | exact q_bf (decide_eq_false (fun h => h.1 c_2)) | exact q_bf (decide_eq_false (fun h => Int32.not_lt.mpr h.2 c_7))) hP hS dX6_isIn_15
abbrev rm_X6_isMention : Room := { frames := 1, cells := 0, slots := 0, locals := 22 }
set_option maxRecDepth 100000 in
set_option maxHeartbeats 4000000 in
theorem c_X6_isMention (l : Launch) (D : va_G) (cA : ClassId) (ad : Nat → Nat) (g : Nat → Nat → Int32) (z : Nat → Nat) (w : Int32) (hc : (z 0) ≤ 16) : q_CI l yX6_isMention [Cond.code yX6_isMention cX6_isMention 2 (some .boolean)] rm_X6_isMention D cA [.ref (ad 80), .int w] (mdW cA ad g z) (q_b (mB w (z 0))) (mdW cA ad g z) := by
  refine q_startI RX6 (by decide +kernel) rfl (Nat.le_of_ble_eq_true rfl) ?_
  intro p e s m below meth c A args H locs ls hx hb hr hml hown hT hlk hP hK hD hA hS hl
  have hl : lv_has ls 2 [(0, .ref (ad 80)), (1, .int w)] := hl
  refine lv_iload_n hx hb dX6_isMention_0 rfl (lv_at hl 1 rfl) ?_
  refine lv_iconst (v := nI 0) hx hb dX6_isMention_1 (by decide +kernel) ?_
  refine lv_aload_n hx hb dX6_isMention_2 rfl (lv_at hl 0 rfl) ?_
  refine q_get hx hb hT hown hK hP kw_X6 0 rfl rfl 0 (by decide) kf_X6_86 rfl (v := .int (nI (z 0))) rfl dX6_isMention_3 ?_
  refine lv_iconst (v := nI 1) hx hb dX6_isMention_6 (by decide +kernel) ?_
  refine lv_isub hx hb dX6_isMention_7 ?_
  refine q_callSI (As := [.int w, .int (nI 0), .int ((nI (z 0)) - (nI 1))]) (r := q_b (iN w (nI 0) ((nI (z 0)) - (nI 1)))) hx hb hml hown hT hK hP hD hS hA (c_X6_isIn l D cA w (nI 0) ((nI (z 0)) - (nI 1))) k_X6_isIn kl_X6_89 hl rfl rfl (Nat.le_of_ble_eq_true rfl) ⟨⟨rfl, rfl⟩, Nat.le_of_ble_eq_true rfl, Nat.le_of_ble_eq_true rfl⟩ ⟨Nat.zero_le _, Nat.zero_le _⟩ dX6_isMention_8 (fun H locs hP hD hS => ?_)
  refine q_top (y := q_b (mB w (z 0))) (congrArg q_b (iN_m (by omega))) ?_
  exact q_zret hx hb hr hlk (q_b_or _) (by rfl) hP hS dX6_isMention_11
abbrev rm_X6_isPost : Room := { frames := 1, cells := 0, slots := 0, locals := 22 }
set_option maxRecDepth 100000 in
set_option maxHeartbeats 4000000 in
theorem c_X6_isPost (l : Launch) (D : va_G) (cA : ClassId) (w : Int32)  : q_CI l yX6_isPost [Cond.code yX6_isPost cX6_isPost 1 (some .boolean)] rm_X6_isPost D cA [.int w] ([] : va_W) (q_b (mB w 8)) ([] : va_W) := by
  refine q_startI RX6 (by decide +kernel) rfl (Nat.le_of_ble_eq_true rfl) ?_
  intro p e s m below meth c A args H locs ls hx hb hr hml hown hT hlk hP hK hD hA hS hl
  have hl : lv_has ls 1 [(0, .int w)] := hl
  refine lv_iload_n hx hb dX6_isPost_0 rfl (lv_at hl 0 rfl) ?_
  refine lv_iconst (v := nI 0) hx hb dX6_isPost_1 (by decide +kernel) ?_
  refine lv_bipush (v := nI 7) hx hb dX6_isPost_2 (by decide +kernel) ?_
  refine q_callSI (As := [.int w, .int (nI 0), .int (nI 7)]) (r := q_b (iN w (nI 0) (nI 7))) hx hb hml hown hT hK hP hD hS hA (c_X6_isIn l D cA w (nI 0) (nI 7)) k_X6_isIn kl_X6_89 hl rfl rfl (Nat.le_of_ble_eq_true rfl) ⟨⟨rfl, rfl⟩, Nat.le_of_ble_eq_true rfl, Nat.le_of_ble_eq_true rfl⟩ ⟨Nat.zero_le _, Nat.zero_le _⟩ dX6_isPost_4 (fun H locs hP hD hS => ?_)
  refine q_top (y := q_b (mB w 8)) (congrArg q_b iN_8) ?_
  exact q_zret hx hb hr hlk (q_b_or _) (by rfl) hP hS dX6_isPost_7
abbrev rm_X6_isPerson : Room := { frames := 1, cells := 0, slots := 0, locals := 22 }
set_option maxRecDepth 100000 in
set_option maxHeartbeats 4000000 in
theorem c_X6_isPerson (l : Launch) (D : va_G) (cA : ClassId) (ad : Nat → Nat) (g : Nat → Nat → Int32) (z : Nat → Nat) (w : Int32) (hm9 : (z 2) ≤ 40) : q_CI l yX6_isPerson [Cond.code yX6_isPerson cX6_isPerson 2 (some .boolean)] rm_X6_isPerson D cA [.ref (ad 80), .int w] (mdW cA ad g z) (q_b (mB w (z 2))) (mdW cA ad g z) := by
  refine q_startI RX6 (by decide +kernel) rfl (Nat.le_of_ble_eq_true rfl) ?_
  intro p e s m below meth c A args H locs ls hx hb hr hml hown hT hlk hP hK hD hA hS hl
  have hl : lv_has ls 2 [(0, .ref (ad 80)), (1, .int w)] := hl
  refine lv_iload_n hx hb dX6_isPerson_0 rfl (lv_at hl 1 rfl) ?_
  refine lv_iconst (v := nI 0) hx hb dX6_isPerson_1 (by decide +kernel) ?_
  refine lv_aload_n hx hb dX6_isPerson_2 rfl (lv_at hl 0 rfl) ?_
  refine q_get hx hb hT hown hK hP kw_X6 0 rfl rfl 21 (by decide) kf_X6_93 rfl (v := .int (nI (z 2))) rfl dX6_isPerson_3 ?_
  refine lv_iconst (v := nI 1) hx hb dX6_isPerson_6 (by decide +kernel) ?_
  refine lv_isub hx hb dX6_isPerson_7 ?_
  refine q_callSI (As := [.int w, .int (nI 0), .int ((nI (z 2)) - (nI 1))]) (r := q_b (iN w (nI 0) ((nI (z 2)) - (nI 1)))) hx hb hml hown hT hK hP hD hS hA (c_X6_isIn l D cA w (nI 0) ((nI (z 2)) - (nI 1))) k_X6_isIn kl_X6_89 hl rfl rfl (Nat.le_of_ble_eq_true rfl) ⟨⟨rfl, rfl⟩, Nat.le_of_ble_eq_true rfl, Nat.le_of_ble_eq_true rfl⟩ ⟨Nat.zero_le _, Nat.zero_le _⟩ dX6_isPerson_8 (fun H locs hP hD hS => ?_)
  refine q_top (y := q_b (mB w (z 2))) (congrArg q_b (iN_m (by omega))) ?_
  exact q_zret hx hb hr hlk (q_b_or _) (by rfl) hP hS dX6_isPerson_11
abbrev rm_X6_has : Room := { frames := 0, cells := 0, slots := 0, locals := 0 }
set_option maxRecDepth 100000 in
set_option maxHeartbeats 4000000 in
theorem c_X6_has (l : Launch) (D : va_G) (cA : ClassId) (x : Int32) (y : Int32)  : q_CI l yX6_has [Cond.code yX6_has cX6_has 2 (some .boolean)] rm_X6_has D cA [.int x, .int y] ([] : va_W) (q_b (hasB x y)) ([] : va_W) := by
  refine q_startI RX6 (by decide +kernel) rfl (Nat.le_of_ble_eq_true rfl) ?_
  intro p e s m below meth c A args H locs ls hx hb hr hml hown hT hlk hP hK hD hA hS hl
  have hl : lv_has ls 2 [(0, .int x), (1, .int y)] := hl
  refine lv_iload_n hx hb dX6_has_0 rfl (lv_at hl 0 rfl) ?_
  refine lv_iload_n hx hb dX6_has_1 rfl (lv_at hl 1 rfl) ?_
  refine lv_ishr hx hb dX6_has_2 ?_
  refine lv_iconst (v := nI 1) hx hb dX6_has_3 (by decide +kernel) ?_
  refine lv_iand hx hb dX6_has_4 ?_
  refine lv_iconst (v := nI 1) hx hb dX6_has_5 (by decide +kernel) ?_
  refine lv_icmp_ne (tgt := 13) hx hb dX6_has_6 (by decide) (fun c_6 => ?_) (fun c_6 => ?_)
  · refine lv_iconst (v := nI 0) hx hb dX6_has_13 (by decide +kernel) ?_
    exact q_zret hx hb hr hlk (Or.inl rfl) (by first | exact q_bt (hasB_t1 c_6) | exact q_bf (hasB_f1 c_6)) hP hS dX6_has_14
  · refine lv_iconst (v := nI 1) hx hb dX6_has_9 (by decide +kernel) ?_
    refine lv_goto (tgt := 14) hx hb dX6_has_10 (by decide) ?_
    exact q_zret hx hb hr hlk (Or.inr rfl) (by first | exact q_bt (hasB_t1 c_6) | exact q_bf (hasB_f1 c_6)) hP hS dX6_has_14
abbrev rm_X6_adds : Room := { frames := 0, cells := 0, slots := 0, locals := 0 }
set_option maxRecDepth 100000 in
set_option maxHeartbeats 4000000 in
theorem c_X6_adds (l : Launch) (D : va_G) (cA : ClassId) (ad : Nat → Nat) (g : Nat → Nat → Int32) (z : Nat → Nat) (k : Nat) (hk : k < 16) (hz40 : (z 2) < 40) : q_CI l yX6_adds [Cond.code yX6_adds cX6_adds 2 (some .int)] rm_X6_adds D cA [.ref (ad 80), .int (nI k)] (mdW cA ad g z) (nI (z 2)) (mdW cA ad (gs (gs g 22 (upd (g 22) k (nI (z 2)))) 23 (upd (g 23) (z 2) (nI (z 2)))) (zs z 2 ((z 2) + 1))) := by
  refine q_startI RX6 (by decide +kernel) rfl (Nat.le_of_ble_eq_true rfl) ?_
  intro p e s m below meth c A args H locs ls hx hb hr hml hown hT hlk hP hK hD hA hS hl
  have hl : lv_has ls 2 [(0, .ref (ad 80)), (1, .int (nI k))] := hl
  refine lv_aload_n hx hb dX6_adds_0 rfl (lv_at hl 0 rfl) ?_
  refine q_get hx hb hT hown hK hP kw_X6 0 rfl rfl 23 (by decide) kf_X6_70 rfl (v := .ref (ad 23)) rfl dX6_adds_1 ?_
  refine lv_aload_n hx hb dX6_adds_4 rfl (lv_at hl 0 rfl) ?_
  refine q_get hx hb hT hown hK hP kw_X6 0 rfl rfl 21 (by decide) kf_X6_93 rfl (v := .int (nI (z 2))) rfl dX6_adds_5 ?_
  refine lv_aload_n hx hb dX6_adds_8 rfl (lv_at hl 0 rfl) ?_
  refine q_get hx hb hT hown hK hP kw_X6 0 rfl rfl 21 (by decide) kf_X6_93 rfl (v := .int (nI (z 2))) rfl dX6_adds_9 ?_
  refine q_iast (f := g 23) (ws1 := mdW cA ad (gs g 23 (upd (g 23) (z 2) (nI (z 2)))) z) hx hb hK hP hD hS 21 0 rfl rfl (z 2) rfl (by omega) (by omega) rfl dX6_adds_12 (fun H locs hP hD hS => ?_)
  obtain ⟨nF12_23, enF12_23⟩ : ∃ y : Nat → Int32, y = upd (g 23) (z 2) (nI (z 2)) := ⟨_, rfl⟩
  have hP : va_P D vwCl (mdW cA ad (gs g 23 nF12_23) z) H := by rw [enF12_23]; exact hP
  have hD : va_D A (mdW cA ad (gs g 23 nF12_23) z) := by rw [enF12_23]; exact hD
  refine lv_aload_n hx hb dX6_adds_13 rfl (lv_at hl 0 rfl) ?_
  refine q_get hx hb hT hown hK hP kw_X6 0 rfl rfl 22 (by decide) kf_X6_67 rfl (v := .ref (ad 22)) rfl dX6_adds_14 ?_
  refine lv_iload_n hx hb dX6_adds_17 rfl (lv_at hl 1 rfl) ?_
  refine lv_aload_n hx hb dX6_adds_18 rfl (lv_at hl 0 rfl) ?_
  refine q_get hx hb hT hown hK hP kw_X6 0 rfl rfl 21 (by decide) kf_X6_93 rfl (v := .int (nI (z 2))) rfl dX6_adds_19 ?_
  refine q_iast (f := g 22) (ws1 := mdW cA ad (gs (gs g 22 (upd (g 22) k (nI (z 2)))) 23 nF12_23) z) hx hb hK hP hD hS 20 0 rfl rfl (k) rfl (by omega) (by omega) rfl dX6_adds_22 (fun H locs hP hD hS => ?_)
  obtain ⟨nF22_22, enF22_22⟩ : ∃ y : Nat → Int32, y = upd (g 22) k (nI (z 2)) := ⟨_, rfl⟩
  have hP : va_P D vwCl (mdW cA ad (gs (gs g 22 nF22_22) 23 nF12_23) z) H := by rw [enF22_22]; exact hP
  have hD : va_D A (mdW cA ad (gs (gs g 22 nF22_22) 23 nF12_23) z) := by rw [enF22_22]; exact hD
  refine lv_aload_n hx hb dX6_adds_23 rfl (lv_at hl 0 rfl) ?_
  refine lv_dup hx hb dX6_adds_24 rfl ?_
  refine q_get hx hb hT hown hK hP kw_X6 0 rfl rfl 21 (by decide) kf_X6_93 rfl (v := .int (nI (z 2))) rfl dX6_adds_25 ?_
  refine lv_iconst (v := nI 1) hx hb dX6_adds_28 (by decide +kernel) ?_
  refine lv_iadd hx hb dX6_adds_29 ?_
  refine q_top (y := nI (z 2 + 1)) (nI_add _ _) ?_
  refine q_put (ty := .int) (ws1 := mdW cA ad (gs (gs g 22 nF22_22) 23 nF12_23) (zs z 2 (z 2 + 1))) hx hb hT hown hK hP hD hS kw_X6 tyX6_ok nmX6 0 rfl rfl 21 (by decide) kf_X6_93 rfl rfl (by decide +kernel) rfl rfl (Nat.le_of_ble_eq_true rfl) rfl dX6_adds_30 (fun H locs hP hD hS => ?_)
  refine lv_aload_n hx hb dX6_adds_33 rfl (lv_at hl 0 rfl) ?_
  refine q_get hx hb hT hown hK hP kw_X6 0 rfl rfl 21 (by decide) kf_X6_93 rfl (v := .int (nI (z 2 + 1))) rfl dX6_adds_34 ?_
  refine lv_iconst (v := nI 1) hx hb dX6_adds_37 (by decide +kernel) ?_
  refine lv_isub hx hb dX6_adds_38 ?_
  refine q_top (y := nI (z 2)) (q_sub1 _) ?_
  rw [enF22_22] at hP hD
  rw [enF12_23] at hP hD
  exact q_iret hx hb hr hlk (by rfl) (va_cast' hP (by rfl)) hS dX6_adds_39
abbrev rm_X6_moves : Room := { frames := 0, cells := 0, slots := 0, locals := 0 }
set_option maxRecDepth 100000 in
set_option maxHeartbeats 4000000 in
theorem c_X6_moves (l : Launch) (D : va_G) (cA : ClassId) (ad : Nat → Nat) (g : Nat → Nat → Int32) (z : Nat → Nat)  (hc : (z 0) ≤ 16) : q_CI l yX6_moves [Cond.code yX6_moves cX6_moves 3 (some .int)] rm_X6_moves D cA [.ref (ad 80)] (mdW cA ad g z) (nI (mvd (g 19) (g 20) (g 17) (g 18) (z 0))) (mdW cA ad g z) := by
  refine q_startI RX6 (by decide +kernel) rfl (Nat.le_of_ble_eq_true rfl) ?_
  intro p e s m below meth c A args H locs ls hx hb hr hml hown hT hlk hP hK hD hA hS hl
  have hl : lv_has ls 3 [(0, .ref (ad 80))] := hl
  have zqL4 : ∀ (fu : Nat), ∀ (k : Nat), (z 0 + 1 ≤ k + fu) → (k ≤ (z 0)) → ∀ (H : Heap) (locs : List Loc) (ls : Array Slot), va_P D vwCl (mdW cA ad g z) H → va_D A (mdW cA ad g z) → va_S A s.heap H locs → lv_has ls 3 [(0, .ref (ad 80)), (1, .int (nI (mvd (g 19) (g 20) (g 17) (g 18) k))), (2, .int (nI k))] → W p l e rm_X6_moves s m args below meth c H locs 0 0 (q_GI D (nI (mvd (g 19) (g 20) (g 17) (g 18) (z 0))) (mdW cA ad g z) A below args s) (F0 m 4 ls []) := by
    intro fu
    induction fu with
    | zero =>
      intro k hfu hk H locs ls hP hD hS hl
      exfalso; omega
    | succ fu ih4 =>
      intro k hfu hk H locs ls hP hD hS hl
      have zqJ48 : (k < (z 0)) → ∀ (H : Heap) (locs : List Loc) (ls : Array Slot), va_P D vwCl (mdW cA ad g z) H → va_D A (mdW cA ad g z) → va_S A s.heap H locs → lv_has ls 3 [(0, .ref (ad 80)), (1, .int (nI (mvd (g 19) (g 20) (g 17) (g 18) k))), (2, .int (nI k))] → W p l e rm_X6_moves s m args below meth c H locs 0 0 (q_GI D (nI (mvd (g 19) (g 20) (g 17) (g 18) (z 0))) (mdW cA ad g z) A below args s) (F0 m 48 ls [.int (q_b (decide (¬ (g 19 k = g 17 k ∧ g 20 k = g 18 k)))), .int (nI (mvd (g 19) (g 20) (g 17) (g 18) k))]) := by
        intro  hk9 H locs ls hP hD hS hl
        refine lv_iadd hx hb dX6_moves_48 ?_
        refine q_top (y := nI (mvd (g 19) (g 20) (g 17) (g 18) (k + 1))) (mvd_addb) ?_
        refine lv_istore_n (lv' := [(1, .int (nI (mvd (g 19) (g 20) (g 17) (g 18) (k + 1)))), (0, .ref (ad 80)), (2, .int (nI k))]) hx hb dX6_moves_49 rfl hl (by decide) rfl (fun ls hl => ?_)
        refine lv_iinc (v := nI (k + 1)) (lv' := [(2, .int (nI (k + 1))), (1, .int (nI (mvd (g 19) (g 20) (g 17) (g 18) (k + 1)))), (0, .ref (ad 80))]) hx hb dX6_moves_50 hl (k := 2) rfl (q_inc1 _) (by decide) rfl (fun ls hl => ?_)
        refine lv_goto (tgt := 4) hx hb dX6_moves_53 (by decide) ?_
        exact ih4 (k + 1) (by omega) (by omega) _ _ _ hP hD hS (lv_sub hl [2, 1, 0] rfl)
      refine lv_iload_n hx hb dX6_moves_4 rfl (lv_at hl 2 rfl) ?_
      refine lv_aload_n hx hb dX6_moves_5 rfl (lv_at hl 0 rfl) ?_
      refine q_get hx hb hT hown hK hP kw_X6 0 rfl rfl 0 (by decide) kf_X6_86 rfl (v := .int (nI (z 0))) rfl dX6_moves_6 ?_
      refine lv_icmp_ge (tgt := 56) hx hb dX6_moves_9 (by decide) (fun c_9 => ?_) (fun c_9 => ?_)
      · have c_9 := nI_le1 (a := z 0) (b := k) (by omega) (by omega) c_9
        refine lv_iload_n hx hb dX6_moves_56 rfl (lv_at hl 1 rfl) ?_
        exact q_iret hx hb hr hlk (by rw [show k = z 0 by omega]) hP hS dX6_moves_57
      · have c_9 := nI_le0 (a := z 0) (b := k) (by omega) (by omega) c_9
        refine lv_iload_n hx hb dX6_moves_12 rfl (lv_at hl 1 rfl) ?_
        refine lv_aload_n hx hb dX6_moves_13 rfl (lv_at hl 0 rfl) ?_
        refine q_get hx hb hT hown hK hP kw_X6 0 rfl rfl 15 (by decide) kf_X6_52 rfl (v := .ref (ad 19)) rfl dX6_moves_14 ?_
        refine lv_iload_n hx hb dX6_moves_17 rfl (lv_at hl 2 rfl) ?_
        refine q_iald (f := g 19) hx hb hK hP 15 0 rfl rfl (k) rfl (by omega) (by omega) dX6_moves_18 ?_
        refine lv_aload_n hx hb dX6_moves_19 rfl (lv_at hl 0 rfl) ?_
        refine q_get hx hb hT hown hK hP kw_X6 0 rfl rfl 13 (by decide) kf_X6_46 rfl (v := .ref (ad 17)) rfl dX6_moves_20 ?_
        refine lv_iload_n hx hb dX6_moves_23 rfl (lv_at hl 2 rfl) ?_
        refine q_iald (f := g 17) hx hb hK hP 13 0 rfl rfl (k) rfl (by omega) (by omega) dX6_moves_24 ?_
        refine lv_icmp_ne (tgt := 43) hx hb dX6_moves_25 (by decide) (fun c_25 => ?_) (fun c_25 => ?_)
        · refine lv_iconst (v := nI 1) hx hb dX6_moves_43 (by decide +kernel) ?_
          refine lv_goto (tgt := 48) hx hb dX6_moves_44 (by decide) ?_
          refine q_top (y := q_b (decide (¬ (g 19 k = g 17 k ∧ g 20 k = g 18 k)))) (by first | exact q_bf (decide_eq_false (fun z => z ⟨c_25, c_40⟩)) | exact q_bt (decide_eq_true (fun z => c_25 z.1)) | exact q_bt (decide_eq_true (fun z => c_40 z.2))) ?_
          exact zqJ48  (by omega) _ _ _ hP hD hS (lv_sub hl [0, 1, 2] rfl)
        · refine lv_aload_n hx hb dX6_moves_28 rfl (lv_at hl 0 rfl) ?_
          refine q_get hx hb hT hown hK hP kw_X6 0 rfl rfl 16 (by decide) kf_X6_55 rfl (v := .ref (ad 20)) rfl dX6_moves_29 ?_
          refine lv_iload_n hx hb dX6_moves_32 rfl (lv_at hl 2 rfl) ?_
          refine q_iald (f := g 20) hx hb hK hP 16 0 rfl rfl (k) rfl (by omega) (by omega) dX6_moves_33 ?_
          refine lv_aload_n hx hb dX6_moves_34 rfl (lv_at hl 0 rfl) ?_
          refine q_get hx hb hT hown hK hP kw_X6 0 rfl rfl 14 (by decide) kf_X6_49 rfl (v := .ref (ad 18)) rfl dX6_moves_35 ?_
          refine lv_iload_n hx hb dX6_moves_38 rfl (lv_at hl 2 rfl) ?_
          refine q_iald (f := g 18) hx hb hK hP 14 0 rfl rfl (k) rfl (by omega) (by omega) dX6_moves_39 ?_
          refine lv_icmp_eq (tgt := 47) hx hb dX6_moves_40 (by decide) (fun c_40 => ?_) (fun c_40 => ?_)
          · refine lv_iconst (v := nI 0) hx hb dX6_moves_47 (by decide +kernel) ?_
            refine q_top (y := q_b (decide (¬ (g 19 k = g 17 k ∧ g 20 k = g 18 k)))) (by first | exact q_bf (decide_eq_false (fun z => z ⟨c_25, c_40⟩)) | exact q_bt (decide_eq_true (fun z => c_25 z.1)) | exact q_bt (decide_eq_true (fun z => c_40 z.2))) ?_
            exact zqJ48  (by omega) _ _ _ hP hD hS (lv_sub hl [0, 1, 2] rfl)
          · refine lv_iconst (v := nI 1) hx hb dX6_moves_43 (by decide +kernel) ?_
            refine lv_goto (tgt := 48) hx hb dX6_moves_44 (by decide) ?_
            refine q_top (y := q_b (decide (¬ (g 19 k = g 17 k ∧ g 20 k = g 18 k)))) (by first | exact q_bf (decide_eq_false (fun z => z ⟨c_25, c_40⟩)) | exact q_bt (decide_eq_true (fun z => c_25 z.1)) | exact q_bt (decide_eq_true (fun z => c_40 z.2))) ?_
            exact zqJ48  (by omega) _ _ _ hP hD hS (lv_sub hl [0, 1, 2] rfl)
  refine lv_iconst (v := nI 0) hx hb dX6_moves_0 (by decide +kernel) ?_
  refine lv_istore_n (lv' := [(1, .int (nI 0)), (0, .ref (ad 80))]) hx hb dX6_moves_1 rfl hl (by decide) rfl (fun ls hl => ?_)
  refine lv_iconst (v := nI 0) hx hb dX6_moves_2 (by decide +kernel) ?_
  refine lv_istore_n (lv' := [(2, .int (nI 0)), (1, .int (nI 0)), (0, .ref (ad 80))]) hx hb dX6_moves_3 rfl hl (by decide) rfl (fun ls hl => ?_)
  have e9_0 : (nI 0) = (nI (mvd (g 19) (g 20) (g 17) (g 18) 0)) := by first | with_reducible rfl | (rfl)
  have hl9 : lv_has ls 3 [(0, .ref (ad 80)), (1, .int (nI (mvd (g 19) (g 20) (g 17) (g 18) 0))), (2, .int (nI 0))] := lv_cast (l := [(0, .ref (ad 80)), (1, .int (nI 0)), (2, .int (nI 0))]) (lv_sub hl [2, 1, 0] rfl) (congrArg (fun v9 : Int32 => ([(0, .ref (ad 80)), (1, .int v9), (2, .int (nI 0))] : List (Nat × Value))) e9_0)
  exact zqL4 (z 0 + 1) 0 (by omega) (by omega) _ _ _ hP hD hS hl9
abbrev rm_X6_keeps : Room := { frames := 0, cells := 0, slots := 0, locals := 0 }
set_option maxRecDepth 100000 in
set_option maxHeartbeats 4000000 in
theorem c_X6_keeps (l : Launch) (D : va_G) (cA : ClassId) (ad : Nat → Nat) (g : Nat → Nat → Int32) (z : Nat → Nat)  (hc : (z 0) ≤ 16) : q_CV l yX6_keeps [Cond.code yX6_keeps cX6_keeps 2 none] rm_X6_keeps D cA [.ref (ad 80)] (mdW cA ad g z) (mdW cA ad (gs (gs g 17 (copyTo (g 17) (g 19) (z 0))) 18 (copyTo (g 18) (g 20) (z 0))) z) := by
  refine q_startV RX6 (by decide +kernel) rfl (Nat.le_of_ble_eq_true rfl) ?_
  intro p e s m below meth c A args H locs ls hx hb hr hml hown hT hlk hP hK hD hA hS hl
  have hl : lv_has ls 2 [(0, .ref (ad 80))] := hl
  have zqL2 : ∀ (fu : Nat), ∀ (k : Nat), (z 0 + 1 ≤ k + fu) → (k ≤ (z 0)) → ∀ (H : Heap) (locs : List Loc) (ls : Array Slot), va_P D vwCl (mdW cA ad (gs (gs g 17 (copyTo (g 17) (g 19) k)) 18 (copyTo (g 18) (g 20) k)) z) H → va_D A (mdW cA ad (gs (gs g 17 (copyTo (g 17) (g 19) k)) 18 (copyTo (g 18) (g 20) k)) z) → va_S A s.heap H locs → lv_has ls 2 [(0, .ref (ad 80)), (1, .int (nI k))] → W p l e rm_X6_keeps s m args below meth c H locs 0 0 (q_GV D (mdW cA ad (gs (gs g 17 (copyTo (g 17) (g 19) (z 0))) 18 (copyTo (g 18) (g 20) (z 0))) z) A below args s) (F0 m 2 ls []) := by
    intro fu
    induction fu with
    | zero =>
      intro k hfu hk H locs ls hP hD hS hl
      exfalso; omega
    | succ fu ih2 =>
      intro k hfu hk H locs ls hP hD hS hl
      refine lv_iload_n hx hb dX6_keeps_2 rfl (lv_at hl 1 rfl) ?_
      refine lv_aload_n hx hb dX6_keeps_3 rfl (lv_at hl 0 rfl) ?_
      refine q_get hx hb hT hown hK hP kw_X6 0 rfl rfl 0 (by decide) kf_X6_86 rfl (v := .int (nI (z 0))) rfl dX6_keeps_4 ?_
      refine lv_icmp_ge (tgt := 40) hx hb dX6_keeps_7 (by decide) (fun c_7 => ?_) (fun c_7 => ?_)
      · have c_7 := nI_le1 (a := z 0) (b := k) (by omega) (by omega) c_7
        exact q_vret hx hb hr hlk (va_cast' hP (by rw [show k = z 0 by omega])) hS dX6_keeps_40
      · have c_7 := nI_le0 (a := z 0) (b := k) (by omega) (by omega) c_7
        refine lv_aload_n hx hb dX6_keeps_10 rfl (lv_at hl 0 rfl) ?_
        refine q_get hx hb hT hown hK hP kw_X6 0 rfl rfl 13 (by decide) kf_X6_46 rfl (v := .ref (ad 17)) rfl dX6_keeps_11 ?_
        refine lv_iload_n hx hb dX6_keeps_14 rfl (lv_at hl 1 rfl) ?_
        refine lv_aload_n hx hb dX6_keeps_15 rfl (lv_at hl 0 rfl) ?_
        refine q_get hx hb hT hown hK hP kw_X6 0 rfl rfl 15 (by decide) kf_X6_52 rfl (v := .ref (ad 19)) rfl dX6_keeps_16 ?_
        refine lv_iload_n hx hb dX6_keeps_19 rfl (lv_at hl 1 rfl) ?_
        refine q_iald (f := g 19) hx hb hK hP 15 0 rfl rfl (k) rfl (by omega) (by omega) dX6_keeps_20 ?_
        refine q_iast (f := copyTo (g 17) (g 19) k) (ws1 := mdW cA ad (gs (gs g 17 (upd (copyTo (g 17) (g 19) k) k (g 19 k))) 18 (copyTo (g 18) (g 20) k)) z) hx hb hK hP hD hS 13 0 rfl rfl (k) rfl (by omega) (by omega) rfl dX6_keeps_21 (fun H locs hP hD hS => ?_)
        obtain ⟨nF21_17, enF21_17⟩ : ∃ y : Nat → Int32, y = upd (copyTo (g 17) (g 19) k) k (g 19 k) := ⟨_, rfl⟩
        have hP : va_P D vwCl (mdW cA ad (gs (gs g 17 nF21_17) 18 (copyTo (g 18) (g 20) k)) z) H := by rw [enF21_17]; exact hP
        have hD : va_D A (mdW cA ad (gs (gs g 17 nF21_17) 18 (copyTo (g 18) (g 20) k)) z) := by rw [enF21_17]; exact hD
        refine lv_aload_n hx hb dX6_keeps_22 rfl (lv_at hl 0 rfl) ?_
        refine q_get hx hb hT hown hK hP kw_X6 0 rfl rfl 14 (by decide) kf_X6_49 rfl (v := .ref (ad 18)) rfl dX6_keeps_23 ?_
        refine lv_iload_n hx hb dX6_keeps_26 rfl (lv_at hl 1 rfl) ?_
        refine lv_aload_n hx hb dX6_keeps_27 rfl (lv_at hl 0 rfl) ?_
        refine q_get hx hb hT hown hK hP kw_X6 0 rfl rfl 16 (by decide) kf_X6_55 rfl (v := .ref (ad 20)) rfl dX6_keeps_28 ?_
        refine lv_iload_n hx hb dX6_keeps_31 rfl (lv_at hl 1 rfl) ?_
        refine q_iald (f := g 20) hx hb hK hP 16 0 rfl rfl (k) rfl (by omega) (by omega) dX6_keeps_32 ?_
        refine q_iast (f := copyTo (g 18) (g 20) k) (ws1 := mdW cA ad (gs (gs g 17 nF21_17) 18 (upd (copyTo (g 18) (g 20) k) k (g 20 k))) z) hx hb hK hP hD hS 14 0 rfl rfl (k) rfl (by omega) (by omega) rfl dX6_keeps_33 (fun H locs hP hD hS => ?_)
        obtain ⟨nF33_18, enF33_18⟩ : ∃ y : Nat → Int32, y = upd (copyTo (g 18) (g 20) k) k (g 20 k) := ⟨_, rfl⟩
        have hP : va_P D vwCl (mdW cA ad (gs (gs g 17 nF21_17) 18 nF33_18) z) H := by rw [enF33_18]; exact hP
        have hD : va_D A (mdW cA ad (gs (gs g 17 nF21_17) 18 nF33_18) z) := by rw [enF33_18]; exact hD
        refine lv_iinc (v := nI (k + 1)) (lv' := [(1, .int (nI (k + 1))), (0, .ref (ad 80))]) hx hb dX6_keeps_34 hl (k := 1) rfl (q_inc1 _) (by decide) rfl (fun ls hl => ?_)
        refine lv_goto (tgt := 2) hx hb dX6_keeps_37 (by decide) ?_
        rw [enF33_18] at hP hD
        rw [enF21_17] at hP hD
        have ew9 : (mdW cA ad (gs (gs g 17 (upd (copyTo (g 17) (g 19) k) k (g 19 k))) 18 (upd (copyTo (g 18) (g 20) k) k (g 20 k))) z) = (mdW cA ad (gs (gs g 17 (copyTo (g 17) (g 19) (k + 1))) 18 (copyTo (g 18) (g 20) (k + 1))) z) := by first | with_reducible rfl | (rw [copyTo_s, copyTo_s])
        have hP : va_P D vwCl (mdW cA ad (gs (gs g 17 (copyTo (g 17) (g 19) (k + 1))) 18 (copyTo (g 18) (g 20) (k + 1))) z) H := va_cast' hP ew9
        have hD : va_D A (mdW cA ad (gs (gs g 17 (copyTo (g 17) (g 19) (k + 1))) 18 (copyTo (g 18) (g 20) (k + 1))) z) := va_castD hD ew9
        exact ih2 (k + 1) (by omega) (by omega) _ _ _ hP hD hS (lv_sub hl [1, 0] rfl)
  refine lv_iconst (v := nI 0) hx hb dX6_keeps_0 (by decide +kernel) ?_
  refine lv_istore_n (lv' := [(1, .int (nI 0)), (0, .ref (ad 80))]) hx hb dX6_keeps_1 rfl hl (by decide) rfl (fun ls hl => ?_)
  have ew9 : (mdW cA ad g z) = (mdW cA ad (gs (gs g 17 (copyTo (g 17) (g 19) 0)) 18 (copyTo (g 18) (g 20) 0)) z) := by first | with_reducible rfl | (rw [copyTo_0, copyTo_0]; rfl)
  have hP : va_P D vwCl (mdW cA ad (gs (gs g 17 (copyTo (g 17) (g 19) 0)) 18 (copyTo (g 18) (g 20) 0)) z) H := va_cast' hP ew9
  have hD : va_D A (mdW cA ad (gs (gs g 17 (copyTo (g 17) (g 19) 0)) 18 (copyTo (g 18) (g 20) 0)) z) := va_castD hD ew9
  exact zqL2 (z 0 + 1) 0 (by omega) (by omega) _ _ _ hP hD hS (lv_sub hl [1, 0] rfl)
abbrev rm_X6_sizeOf : Room := { frames := 0, cells := 0, slots := 0, locals := 0 }
set_option maxRecDepth 100000 in
set_option maxHeartbeats 4000000 in
theorem c_X6_sizeOf (l : Launch) (D : va_G) (cA : ClassId) (ad : Nat → Nat) (g : Nat → Nat → Int32) (z : Nat → Nat) (w : Int32) (hc : (z 0) ≤ 16) : q_CI l yX6_sizeOf [Cond.code yX6_sizeOf cX6_sizeOf 4 (some .int)] rm_X6_sizeOf D cA [.ref (ad 80), .int w] (mdW cA ad g z) (nI (cntN (g 22) w (z 0))) (mdW cA ad g z) := by
  refine q_startI RX6 (by decide +kernel) rfl (Nat.le_of_ble_eq_true rfl) ?_
  intro p e s m below meth c A args H locs ls hx hb hr hml hown hT hlk hP hK hD hA hS hl
  have hl : lv_has ls 4 [(0, .ref (ad 80)), (1, .int w)] := hl
  have zqL4 : ∀ (fu : Nat), ∀ (k : Nat), (z 0 + 1 ≤ k + fu) → (k ≤ (z 0)) → ∀ (H : Heap) (locs : List Loc) (ls : Array Slot), va_P D vwCl (mdW cA ad g z) H → va_D A (mdW cA ad g z) → va_S A s.heap H locs → lv_has ls 4 [(0, .ref (ad 80)), (1, .int w), (2, .int (nI (cntN (g 22) w k))), (3, .int (nI k))] → W p l e rm_X6_sizeOf s m args below meth c H locs 0 0 (q_GI D (nI (cntN (g 22) w (z 0))) (mdW cA ad g z) A below args s) (F0 m 4 ls []) := by
    intro fu
    induction fu with
    | zero =>
      intro k hfu hk H locs ls hP hD hS hl
      exfalso; omega
    | succ fu ih4 =>
      intro k hfu hk H locs ls hP hD hS hl
      have zqJ28 : (k < (z 0)) → ∀ (H : Heap) (locs : List Loc) (ls : Array Slot), va_P D vwCl (mdW cA ad g z) H → va_D A (mdW cA ad g z) → va_S A s.heap H locs → lv_has ls 4 [(0, .ref (ad 80)), (1, .int w), (3, .int (nI k))] → W p l e rm_X6_sizeOf s m args below meth c H locs 0 0 (q_GI D (nI (cntN (g 22) w (z 0))) (mdW cA ad g z) A below args s) (F0 m 28 ls [.int (q_b (decide (g 22 k = w))), .int (nI (cntN (g 22) w k))]) := by
        intro  hk9 H locs ls hP hD hS hl
        refine lv_iadd hx hb dX6_sizeOf_28 ?_
        refine q_top (y := nI (cntN (g 22) w (k + 1))) (cntN_addb) ?_
        refine lv_istore_n (lv' := [(2, .int (nI (cntN (g 22) w (k + 1)))), (0, .ref (ad 80)), (1, .int w), (3, .int (nI k))]) hx hb dX6_sizeOf_29 rfl hl (by decide) rfl (fun ls hl => ?_)
        refine lv_iinc (v := nI (k + 1)) (lv' := [(3, .int (nI (k + 1))), (2, .int (nI (cntN (g 22) w (k + 1)))), (0, .ref (ad 80)), (1, .int w)]) hx hb dX6_sizeOf_30 hl (k := 3) rfl (q_inc1 _) (by decide) rfl (fun ls hl => ?_)
        refine lv_goto (tgt := 4) hx hb dX6_sizeOf_33 (by decide) ?_
        exact ih4 (k + 1) (by omega) (by omega) _ _ _ hP hD hS (lv_sub hl [2, 3, 1, 0] rfl)
      refine lv_iload_n hx hb dX6_sizeOf_4 rfl (lv_at hl 3 rfl) ?_
      refine lv_aload_n hx hb dX6_sizeOf_5 rfl (lv_at hl 0 rfl) ?_
      refine q_get hx hb hT hown hK hP kw_X6 0 rfl rfl 0 (by decide) kf_X6_86 rfl (v := .int (nI (z 0))) rfl dX6_sizeOf_6 ?_
      refine lv_icmp_ge (tgt := 36) hx hb dX6_sizeOf_9 (by decide) (fun c_9 => ?_) (fun c_9 => ?_)
      · have c_9 := nI_le1 (a := z 0) (b := k) (by omega) (by omega) c_9
        refine lv_iload_n hx hb dX6_sizeOf_36 rfl (lv_at hl 2 rfl) ?_
        exact q_iret hx hb hr hlk (by rw [show k = z 0 by omega]) hP hS dX6_sizeOf_37
      · have c_9 := nI_le0 (a := z 0) (b := k) (by omega) (by omega) c_9
        refine lv_iload_n hx hb dX6_sizeOf_12 rfl (lv_at hl 2 rfl) ?_
        refine lv_aload_n hx hb dX6_sizeOf_13 rfl (lv_at hl 0 rfl) ?_
        refine q_get hx hb hT hown hK hP kw_X6 0 rfl rfl 22 (by decide) kf_X6_67 rfl (v := .ref (ad 22)) rfl dX6_sizeOf_14 ?_
        refine lv_iload_n hx hb dX6_sizeOf_17 rfl (lv_at hl 3 rfl) ?_
        refine q_iald (f := g 22) hx hb hK hP 20 0 rfl rfl (k) rfl (by omega) (by omega) dX6_sizeOf_18 ?_
        refine lv_iload_n hx hb dX6_sizeOf_19 rfl (lv_at hl 1 rfl) ?_
        refine lv_icmp_ne (tgt := 27) hx hb dX6_sizeOf_20 (by decide) (fun c_20 => ?_) (fun c_20 => ?_)
        · refine lv_iconst (v := nI 0) hx hb dX6_sizeOf_27 (by decide +kernel) ?_
          refine q_top (y := q_b (decide (g 22 k = w))) (by first | exact q_bt (decide_eq_true c_20) | exact q_bf (decide_eq_false c_20)) ?_
          exact zqJ28  (by omega) _ _ _ hP hD hS (lv_sub hl [0, 1, 3] rfl)
        · refine lv_iconst (v := nI 1) hx hb dX6_sizeOf_23 (by decide +kernel) ?_
          refine lv_goto (tgt := 28) hx hb dX6_sizeOf_24 (by decide) ?_
          refine q_top (y := q_b (decide (g 22 k = w))) (by first | exact q_bt (decide_eq_true c_20) | exact q_bf (decide_eq_false c_20)) ?_
          exact zqJ28  (by omega) _ _ _ hP hD hS (lv_sub hl [0, 1, 3] rfl)
  refine lv_iconst (v := nI 0) hx hb dX6_sizeOf_0 (by decide +kernel) ?_
  refine lv_istore_n (lv' := [(2, .int (nI 0)), (0, .ref (ad 80)), (1, .int w)]) hx hb dX6_sizeOf_1 rfl hl (by decide) rfl (fun ls hl => ?_)
  refine lv_iconst (v := nI 0) hx hb dX6_sizeOf_2 (by decide +kernel) ?_
  refine lv_istore_n (lv' := [(3, .int (nI 0)), (2, .int (nI 0)), (0, .ref (ad 80)), (1, .int w)]) hx hb dX6_sizeOf_3 rfl hl (by decide) rfl (fun ls hl => ?_)
  have e9_0 : (nI 0) = (nI (cntN (g 22) w 0)) := by first | with_reducible rfl | (rfl)
  have hl9 : lv_has ls 4 [(0, .ref (ad 80)), (1, .int w), (2, .int (nI (cntN (g 22) w 0))), (3, .int (nI 0))] := lv_cast (l := [(0, .ref (ad 80)), (1, .int w), (2, .int (nI 0)), (3, .int (nI 0))]) (lv_sub hl [2, 3, 1, 0] rfl) (congrArg (fun v9 : Int32 => ([(0, .ref (ad 80)), (1, .int w), (2, .int v9), (3, .int (nI 0))] : List (Nat × Value))) e9_0)
  exact zqL4 (z 0 + 1) 0 (by omega) (by omega) _ _ _ hP hD hS hl9
abbrev rm_X6_weightOf : Room := { frames := 1, cells := 0, slots := 0, locals := 21 }
set_option maxRecDepth 100000 in
set_option maxHeartbeats 4000000 in
theorem c_X6_weightOf (l : Launch) (D : va_G) (cA : ClassId) (ad : Nat → Nat) (g : Nat → Nat → Int32) (z : Nat → Nat) (i : Nat) (j : Nat) (hi : i < 16) (hj : j < 16) : q_CI l yX6_weightOf [Cond.code yX6_weightOf cX6_weightOf 4 (some .int)] rm_X6_weightOf D cA [.ref (ad 80), .int (nI i), .int (nI j)] (mdW cA ad g z) (nI (wtN g i j)) (mdW cA ad g z) := by
  refine q_startI RX6 (by decide +kernel) rfl (Nat.le_of_ble_eq_true rfl) ?_
  intro p e s m below meth c A args H locs ls hx hb hr hml hown hT hlk hP hK hD hA hS hl
  have hl : lv_has ls 4 [(0, .ref (ad 80)), (1, .int (nI i)), (2, .int (nI j))] := hl
  have zqJ129 : ∀ (H : Heap) (locs : List Loc) (ls : Array Slot), va_P D vwCl (mdW cA ad g z) H → va_D A (mdW cA ad g z) → va_S A s.heap H locs → lv_has ls 4 [(0, .ref (ad 80)), (1, .int (nI i)), (2, .int (nI j)), (3, .int (nI ((((if g 0 i = g 0 j then 2 else 0) + (if kn (g 1 i) (g 1 j) = true then 3 else 0)) + (if g 2 i = g 2 j then 1 else 0)) + (if kn (g 3 i) (g 3 j) = true then 2 else 0))))] → W p l e rm_X6_weightOf s m args below meth c H locs 0 0 (q_GI D (nI (wtN g i j)) (mdW cA ad g z) A below args s) (F0 m 129 ls [.int (nI (if hasB (g 9 i) (nI j) = true then 5 else 0)), .int (nI ((((if g 0 i = g 0 j then 2 else 0) + (if kn (g 1 i) (g 1 j) = true then 3 else 0)) + (if g 2 i = g 2 j then 1 else 0)) + (if kn (g 3 i) (g 3 j) = true then 2 else 0)))]) := by
    intro   H locs ls hP hD hS hl
    refine lv_iadd hx hb dX6_weightOf_129 ?_
    refine q_top (y := nI (((((if g 0 i = g 0 j then 2 else 0) + (if kn (g 1 i) (g 1 j) = true then 3 else 0)) + (if g 2 i = g 2 j then 1 else 0)) + (if kn (g 3 i) (g 3 j) = true then 2 else 0)) + (if hasB (g 9 i) (nI j) = true then 5 else 0))) (nI_add _ _) ?_
    exact q_iret hx hb hr hlk (by rfl) hP hS dX6_weightOf_130
  have zqJ108 : ∀ (H : Heap) (locs : List Loc) (ls : Array Slot), va_P D vwCl (mdW cA ad g z) H → va_D A (mdW cA ad g z) → va_S A s.heap H locs → lv_has ls 4 [(0, .ref (ad 80)), (1, .int (nI i)), (2, .int (nI j)), (3, .int (nI (((if g 0 i = g 0 j then 2 else 0) + (if kn (g 1 i) (g 1 j) = true then 3 else 0)) + (if g 2 i = g 2 j then 1 else 0))))] → W p l e rm_X6_weightOf s m args below meth c H locs 0 0 (q_GI D (nI (wtN g i j)) (mdW cA ad g z) A below args s) (F0 m 108 ls [.int (nI (if kn (g 3 i) (g 3 j) = true then 2 else 0)), .int (nI (((if g 0 i = g 0 j then 2 else 0) + (if kn (g 1 i) (g 1 j) = true then 3 else 0)) + (if g 2 i = g 2 j then 1 else 0)))]) := by
    intro   H locs ls hP hD hS hl
    refine lv_iadd hx hb dX6_weightOf_108 ?_
    refine q_top (y := nI ((((if g 0 i = g 0 j then 2 else 0) + (if kn (g 1 i) (g 1 j) = true then 3 else 0)) + (if g 2 i = g 2 j then 1 else 0)) + (if kn (g 3 i) (g 3 j) = true then 2 else 0))) (nI_add _ _) ?_
    refine lv_istore_n (lv' := [(3, .int (nI ((((if g 0 i = g 0 j then 2 else 0) + (if kn (g 1 i) (g 1 j) = true then 3 else 0)) + (if g 2 i = g 2 j then 1 else 0)) + (if kn (g 3 i) (g 3 j) = true then 2 else 0)))), (0, .ref (ad 80)), (1, .int (nI i)), (2, .int (nI j))]) hx hb dX6_weightOf_109 rfl hl (by decide) rfl (fun ls hl => ?_)
    refine lv_iload_n hx hb dX6_weightOf_110 rfl (lv_at hl 0 rfl) ?_
    refine lv_aload_n hx hb dX6_weightOf_111 rfl (lv_at hl 1 rfl) ?_
    refine q_get hx hb hT hown hK hP kw_X6 0 rfl rfl 7 (by decide) kf_X6_28 rfl (v := .ref (ad 9)) rfl dX6_weightOf_112 ?_
    refine lv_iload_n hx hb dX6_weightOf_115 rfl (lv_at hl 2 rfl) ?_
    refine q_iald (f := g 9) hx hb hK hP 7 0 rfl rfl (i) rfl (by omega) (by omega) dX6_weightOf_116 ?_
    refine lv_iload_n hx hb dX6_weightOf_117 rfl (lv_at hl 3 rfl) ?_
    refine q_callSI (As := [.int (g 9 i), .int (nI j)]) (r := q_b (hasB (g 9 i) (nI j))) hx hb hml hown hT hK hP hD hS hA (c_X6_has l D cA (g 9 i) (nI j)) k_X6_has kl_X6_104 hl rfl rfl (Nat.le_of_ble_eq_true rfl) ⟨⟨rfl, rfl⟩, Nat.le_of_ble_eq_true rfl, Nat.le_of_ble_eq_true rfl⟩ ⟨Nat.zero_le _, Nat.zero_le _⟩ dX6_weightOf_118 (fun H locs hP hD hS => ?_)
    refine lv_if_eq (tgt := 128) hx hb dX6_weightOf_121 (by decide) (fun c_121 => ?_) (fun c_121 => ?_)
    · have c_121 := q_b0e c_121
      refine lv_iconst (v := nI 0) hx hb dX6_weightOf_128 (by decide +kernel) ?_
      refine q_top (y := nI (if hasB (g 9 i) (nI j) = true then 5 else 0)) (by first | rw [if_pos c_121] | rw [if_neg (by rw [c_121]; exact Bool.false_ne_true)]) ?_
      exact zqJ129   _ _ _ hP hD hS (lv_sub hl [1, 2, 3, 0] rfl)
    · have c_121 := q_b0n c_121
      refine lv_iconst (v := nI 5) hx hb dX6_weightOf_124 (by decide +kernel) ?_
      refine lv_goto (tgt := 129) hx hb dX6_weightOf_125 (by decide) ?_
      refine q_top (y := nI (if hasB (g 9 i) (nI j) = true then 5 else 0)) (by first | rw [if_pos c_121] | rw [if_neg (by rw [c_121]; exact Bool.false_ne_true)]) ?_
      exact zqJ129   _ _ _ hP hD hS (lv_sub hl [1, 2, 3, 0] rfl)
  have zqJ75 : ∀ (H : Heap) (locs : List Loc) (ls : Array Slot), va_P D vwCl (mdW cA ad g z) H → va_D A (mdW cA ad g z) → va_S A s.heap H locs → lv_has ls 4 [(0, .ref (ad 80)), (1, .int (nI i)), (2, .int (nI j)), (3, .int (nI ((if g 0 i = g 0 j then 2 else 0) + (if kn (g 1 i) (g 1 j) = true then 3 else 0))))] → W p l e rm_X6_weightOf s m args below meth c H locs 0 0 (q_GI D (nI (wtN g i j)) (mdW cA ad g z) A below args s) (F0 m 75 ls [.int (nI (if g 2 i = g 2 j then 1 else 0)), .int (nI ((if g 0 i = g 0 j then 2 else 0) + (if kn (g 1 i) (g 1 j) = true then 3 else 0)))]) := by
    intro   H locs ls hP hD hS hl
    refine lv_iadd hx hb dX6_weightOf_75 ?_
    refine q_top (y := nI (((if g 0 i = g 0 j then 2 else 0) + (if kn (g 1 i) (g 1 j) = true then 3 else 0)) + (if g 2 i = g 2 j then 1 else 0))) (nI_add _ _) ?_
    refine lv_istore_n (lv' := [(3, .int (nI (((if g 0 i = g 0 j then 2 else 0) + (if kn (g 1 i) (g 1 j) = true then 3 else 0)) + (if g 2 i = g 2 j then 1 else 0)))), (0, .ref (ad 80)), (1, .int (nI i)), (2, .int (nI j))]) hx hb dX6_weightOf_76 rfl hl (by decide) rfl (fun ls hl => ?_)
    refine lv_iload_n hx hb dX6_weightOf_77 rfl (lv_at hl 0 rfl) ?_
    refine lv_aload_n hx hb dX6_weightOf_78 rfl (lv_at hl 1 rfl) ?_
    refine q_get hx hb hT hown hK hP kw_X6 0 rfl rfl 4 (by decide) kf_X6_19 rfl (v := .ref (ad 3)) rfl dX6_weightOf_79 ?_
    refine lv_iload_n hx hb dX6_weightOf_82 rfl (lv_at hl 2 rfl) ?_
    refine q_iald (f := g 3) hx hb hK hP 4 0 rfl rfl (i) rfl (by omega) (by omega) dX6_weightOf_83 ?_
    refine lv_iconst (v := (-1)) hx hb dX6_weightOf_84 (by decide +kernel) ?_
    refine lv_icmp_eq (tgt := 107) hx hb dX6_weightOf_85 (by decide) (fun c_85 => ?_) (fun c_85 => ?_)
    · refine lv_iconst (v := nI 0) hx hb dX6_weightOf_107 (by decide +kernel) ?_
      refine q_top (y := nI (if kn (g 3 i) (g 3 j) = true then 2 else 0)) (by first | rw [if_pos (kn_t c_100 c_85)] | rw [if_neg (kn_f1 c_85)] | rw [if_neg (kn_f2 c_100)]) ?_
      exact zqJ108   _ _ _ hP hD hS (lv_sub hl [1, 2, 3, 0] rfl)
    · refine lv_aload_n hx hb dX6_weightOf_88 rfl (lv_at hl 1 rfl) ?_
      refine q_get hx hb hT hown hK hP kw_X6 0 rfl rfl 4 (by decide) kf_X6_19 rfl (v := .ref (ad 3)) rfl dX6_weightOf_89 ?_
      refine lv_iload_n hx hb dX6_weightOf_92 rfl (lv_at hl 2 rfl) ?_
      refine q_iald (f := g 3) hx hb hK hP 4 0 rfl rfl (i) rfl (by omega) (by omega) dX6_weightOf_93 ?_
      refine lv_aload_n hx hb dX6_weightOf_94 rfl (lv_at hl 1 rfl) ?_
      refine q_get hx hb hT hown hK hP kw_X6 0 rfl rfl 4 (by decide) kf_X6_19 rfl (v := .ref (ad 3)) rfl dX6_weightOf_95 ?_
      refine lv_iload_n hx hb dX6_weightOf_98 rfl (lv_at hl 3 rfl) ?_
      refine q_iald (f := g 3) hx hb hK hP 4 0 rfl rfl (j) rfl (by omega) (by omega) dX6_weightOf_99 ?_
      refine lv_icmp_ne (tgt := 107) hx hb dX6_weightOf_100 (by decide) (fun c_100 => ?_) (fun c_100 => ?_)
      · refine lv_iconst (v := nI 0) hx hb dX6_weightOf_107 (by decide +kernel) ?_
        refine q_top (y := nI (if kn (g 3 i) (g 3 j) = true then 2 else 0)) (by first | rw [if_pos (kn_t c_100 c_85)] | rw [if_neg (kn_f1 c_85)] | rw [if_neg (kn_f2 c_100)]) ?_
        exact zqJ108   _ _ _ hP hD hS (lv_sub hl [1, 2, 3, 0] rfl)
      · refine lv_iconst (v := nI 2) hx hb dX6_weightOf_103 (by decide +kernel) ?_
        refine lv_goto (tgt := 108) hx hb dX6_weightOf_104 (by decide) ?_
        refine q_top (y := nI (if kn (g 3 i) (g 3 j) = true then 2 else 0)) (by first | rw [if_pos (kn_t c_100 c_85)] | rw [if_neg (kn_f1 c_85)] | rw [if_neg (kn_f2 c_100)]) ?_
        exact zqJ108   _ _ _ hP hD hS (lv_sub hl [1, 2, 3, 0] rfl)
  have zqJ52 : ∀ (H : Heap) (locs : List Loc) (ls : Array Slot), va_P D vwCl (mdW cA ad g z) H → va_D A (mdW cA ad g z) → va_S A s.heap H locs → lv_has ls 4 [(0, .ref (ad 80)), (1, .int (nI i)), (2, .int (nI j)), (3, .int (nI (if g 0 i = g 0 j then 2 else 0)))] → W p l e rm_X6_weightOf s m args below meth c H locs 0 0 (q_GI D (nI (wtN g i j)) (mdW cA ad g z) A below args s) (F0 m 52 ls [.int (nI (if kn (g 1 i) (g 1 j) = true then 3 else 0)), .int (nI (if g 0 i = g 0 j then 2 else 0))]) := by
    intro   H locs ls hP hD hS hl
    refine lv_iadd hx hb dX6_weightOf_52 ?_
    refine q_top (y := nI ((if g 0 i = g 0 j then 2 else 0) + (if kn (g 1 i) (g 1 j) = true then 3 else 0))) (nI_add _ _) ?_
    refine lv_istore_n (lv' := [(3, .int (nI ((if g 0 i = g 0 j then 2 else 0) + (if kn (g 1 i) (g 1 j) = true then 3 else 0)))), (0, .ref (ad 80)), (1, .int (nI i)), (2, .int (nI j))]) hx hb dX6_weightOf_53 rfl hl (by decide) rfl (fun ls hl => ?_)
    refine lv_iload_n hx hb dX6_weightOf_54 rfl (lv_at hl 0 rfl) ?_
    refine lv_aload_n hx hb dX6_weightOf_55 rfl (lv_at hl 1 rfl) ?_
    refine q_get hx hb hT hown hK hP kw_X6 0 rfl rfl 3 (by decide) kf_X6_16 rfl (v := .ref (ad 2)) rfl dX6_weightOf_56 ?_
    refine lv_iload_n hx hb dX6_weightOf_59 rfl (lv_at hl 2 rfl) ?_
    refine q_iald (f := g 2) hx hb hK hP 3 0 rfl rfl (i) rfl (by omega) (by omega) dX6_weightOf_60 ?_
    refine lv_aload_n hx hb dX6_weightOf_61 rfl (lv_at hl 1 rfl) ?_
    refine q_get hx hb hT hown hK hP kw_X6 0 rfl rfl 3 (by decide) kf_X6_16 rfl (v := .ref (ad 2)) rfl dX6_weightOf_62 ?_
    refine lv_iload_n hx hb dX6_weightOf_65 rfl (lv_at hl 3 rfl) ?_
    refine q_iald (f := g 2) hx hb hK hP 3 0 rfl rfl (j) rfl (by omega) (by omega) dX6_weightOf_66 ?_
    refine lv_icmp_ne (tgt := 74) hx hb dX6_weightOf_67 (by decide) (fun c_67 => ?_) (fun c_67 => ?_)
    · refine lv_iconst (v := nI 0) hx hb dX6_weightOf_74 (by decide +kernel) ?_
      refine q_top (y := nI (if g 2 i = g 2 j then 1 else 0)) (by first | rw [if_pos c_67] | rw [if_neg c_67]) ?_
      exact zqJ75   _ _ _ hP hD hS (lv_sub hl [1, 2, 3, 0] rfl)
    · refine lv_iconst (v := nI 1) hx hb dX6_weightOf_70 (by decide +kernel) ?_
      refine lv_goto (tgt := 75) hx hb dX6_weightOf_71 (by decide) ?_
      refine q_top (y := nI (if g 2 i = g 2 j then 1 else 0)) (by first | rw [if_pos c_67] | rw [if_neg c_67]) ?_
      exact zqJ75   _ _ _ hP hD hS (lv_sub hl [1, 2, 3, 0] rfl)
  have zqJ20 : ∀ (H : Heap) (locs : List Loc) (ls : Array Slot), va_P D vwCl (mdW cA ad g z) H → va_D A (mdW cA ad g z) → va_S A s.heap H locs → lv_has ls 4 [(0, .ref (ad 80)), (1, .int (nI i)), (2, .int (nI j))] → W p l e rm_X6_weightOf s m args below meth c H locs 0 0 (q_GI D (nI (wtN g i j)) (mdW cA ad g z) A below args s) (F0 m 20 ls [.int (nI (if g 0 i = g 0 j then 2 else 0))]) := by
    intro   H locs ls hP hD hS hl
    refine lv_istore_n (lv' := [(3, .int (nI (if g 0 i = g 0 j then 2 else 0))), (0, .ref (ad 80)), (1, .int (nI i)), (2, .int (nI j))]) hx hb dX6_weightOf_20 rfl hl (by decide) rfl (fun ls hl => ?_)
    refine lv_iload_n hx hb dX6_weightOf_21 rfl (lv_at hl 0 rfl) ?_
    refine lv_aload_n hx hb dX6_weightOf_22 rfl (lv_at hl 1 rfl) ?_
    refine q_get hx hb hT hown hK hP kw_X6 0 rfl rfl 2 (by decide) kf_X6_13 rfl (v := .ref (ad 1)) rfl dX6_weightOf_23 ?_
    refine lv_iload_n hx hb dX6_weightOf_26 rfl (lv_at hl 2 rfl) ?_
    refine q_iald (f := g 1) hx hb hK hP 2 0 rfl rfl (i) rfl (by omega) (by omega) dX6_weightOf_27 ?_
    refine lv_iconst (v := (-1)) hx hb dX6_weightOf_28 (by decide +kernel) ?_
    refine lv_icmp_eq (tgt := 51) hx hb dX6_weightOf_29 (by decide) (fun c_29 => ?_) (fun c_29 => ?_)
    · refine lv_iconst (v := nI 0) hx hb dX6_weightOf_51 (by decide +kernel) ?_
      refine q_top (y := nI (if kn (g 1 i) (g 1 j) = true then 3 else 0)) (by first | rw [if_pos (kn_t c_44 c_29)] | rw [if_neg (kn_f1 c_29)] | rw [if_neg (kn_f2 c_44)]) ?_
      exact zqJ52   _ _ _ hP hD hS (lv_sub hl [1, 2, 3, 0] rfl)
    · refine lv_aload_n hx hb dX6_weightOf_32 rfl (lv_at hl 1 rfl) ?_
      refine q_get hx hb hT hown hK hP kw_X6 0 rfl rfl 2 (by decide) kf_X6_13 rfl (v := .ref (ad 1)) rfl dX6_weightOf_33 ?_
      refine lv_iload_n hx hb dX6_weightOf_36 rfl (lv_at hl 2 rfl) ?_
      refine q_iald (f := g 1) hx hb hK hP 2 0 rfl rfl (i) rfl (by omega) (by omega) dX6_weightOf_37 ?_
      refine lv_aload_n hx hb dX6_weightOf_38 rfl (lv_at hl 1 rfl) ?_
      refine q_get hx hb hT hown hK hP kw_X6 0 rfl rfl 2 (by decide) kf_X6_13 rfl (v := .ref (ad 1)) rfl dX6_weightOf_39 ?_
      refine lv_iload_n hx hb dX6_weightOf_42 rfl (lv_at hl 3 rfl) ?_
      refine q_iald (f := g 1) hx hb hK hP 2 0 rfl rfl (j) rfl (by omega) (by omega) dX6_weightOf_43 ?_
      refine lv_icmp_ne (tgt := 51) hx hb dX6_weightOf_44 (by decide) (fun c_44 => ?_) (fun c_44 => ?_)
      · refine lv_iconst (v := nI 0) hx hb dX6_weightOf_51 (by decide +kernel) ?_
        refine q_top (y := nI (if kn (g 1 i) (g 1 j) = true then 3 else 0)) (by first | rw [if_pos (kn_t c_44 c_29)] | rw [if_neg (kn_f1 c_29)] | rw [if_neg (kn_f2 c_44)]) ?_
        exact zqJ52   _ _ _ hP hD hS (lv_sub hl [1, 2, 3, 0] rfl)
      · refine lv_iconst (v := nI 3) hx hb dX6_weightOf_47 (by decide +kernel) ?_
        refine lv_goto (tgt := 52) hx hb dX6_weightOf_48 (by decide) ?_
        refine q_top (y := nI (if kn (g 1 i) (g 1 j) = true then 3 else 0)) (by first | rw [if_pos (kn_t c_44 c_29)] | rw [if_neg (kn_f1 c_29)] | rw [if_neg (kn_f2 c_44)]) ?_
        exact zqJ52   _ _ _ hP hD hS (lv_sub hl [1, 2, 3, 0] rfl)
  refine lv_aload_n hx hb dX6_weightOf_0 rfl (lv_at hl 0 rfl) ?_
  refine q_get hx hb hT hown hK hP kw_X6 0 rfl rfl 1 (by decide) kf_X6_7 rfl (v := .ref (ad 0)) rfl dX6_weightOf_1 ?_
  refine lv_iload_n hx hb dX6_weightOf_4 rfl (lv_at hl 1 rfl) ?_
  refine q_iald (f := g 0) hx hb hK hP 1 0 rfl rfl (i) rfl (by omega) (by omega) dX6_weightOf_5 ?_
  refine lv_aload_n hx hb dX6_weightOf_6 rfl (lv_at hl 0 rfl) ?_
  refine q_get hx hb hT hown hK hP kw_X6 0 rfl rfl 1 (by decide) kf_X6_7 rfl (v := .ref (ad 0)) rfl dX6_weightOf_7 ?_
  refine lv_iload_n hx hb dX6_weightOf_10 rfl (lv_at hl 2 rfl) ?_
  refine q_iald (f := g 0) hx hb hK hP 1 0 rfl rfl (j) rfl (by omega) (by omega) dX6_weightOf_11 ?_
  refine lv_icmp_ne (tgt := 19) hx hb dX6_weightOf_12 (by decide) (fun c_12 => ?_) (fun c_12 => ?_)
  · refine lv_iconst (v := nI 0) hx hb dX6_weightOf_19 (by decide +kernel) ?_
    refine q_top (y := nI (if g 0 i = g 0 j then 2 else 0)) (by first | rw [if_pos c_12] | rw [if_neg c_12]) ?_
    exact zqJ20   _ _ _ hP hD hS (lv_sub hl [0, 1, 2] rfl)
  · refine lv_iconst (v := nI 2) hx hb dX6_weightOf_15 (by decide +kernel) ?_
    refine lv_goto (tgt := 20) hx hb dX6_weightOf_16 (by decide) ?_
    refine q_top (y := nI (if g 0 i = g 0 j then 2 else 0)) (by first | rw [if_pos c_12] | rw [if_neg c_12]) ?_
    exact zqJ20   _ _ _ hP hD hS (lv_sub hl [0, 1, 2] rfl)
abbrev rm_X6_areOfUnlikeFamilies : Room := { frames := 0, cells := 0, slots := 0, locals := 0 }
set_option maxRecDepth 100000 in
set_option maxHeartbeats 4000000 in
theorem c_X6_areOfUnlikeFamilies (l : Launch) (D : va_G) (cA : ClassId) (ad : Nat → Nat) (g : Nat → Nat → Int32) (z : Nat → Nat) (i : Nat) (j : Nat) (hi : i < 16) (hj : j < 16) : q_CI l yX6_areOfUnlikeFamilies [Cond.code yX6_areOfUnlikeFamilies cX6_areOfUnlikeFamilies 3 (some .boolean)] rm_X6_areOfUnlikeFamilies D cA [.ref (ad 80), .int (nI i), .int (nI j)] (mdW cA ad g z) (q_b (hof ((g 1) i) ((g 1) j))) (mdW cA ad g z) := by
  refine q_startI RX6 (by decide +kernel) rfl (Nat.le_of_ble_eq_true rfl) ?_
  intro p e s m below meth c A args H locs ls hx hb hr hml hown hT hlk hP hK hD hA hS hl
  have hl : lv_has ls 3 [(0, .ref (ad 80)), (1, .int (nI i)), (2, .int (nI j))] := hl
  refine lv_aload_n hx hb dX6_areOfUnlikeFamilies_0 rfl (lv_at hl 0 rfl) ?_
  refine q_get hx hb hT hown hK hP kw_X6 0 rfl rfl 2 (by decide) kf_X6_13 rfl (v := .ref (ad 1)) rfl dX6_areOfUnlikeFamilies_1 ?_
  refine lv_iload_n hx hb dX6_areOfUnlikeFamilies_4 rfl (lv_at hl 1 rfl) ?_
  refine q_iald (f := g 1) hx hb hK hP 2 0 rfl rfl (i) rfl (by omega) (by omega) dX6_areOfUnlikeFamilies_5 ?_
  refine lv_iconst (v := (-1)) hx hb dX6_areOfUnlikeFamilies_6 (by decide +kernel) ?_
  refine lv_icmp_eq (tgt := 39) hx hb dX6_areOfUnlikeFamilies_7 (by decide) (fun c_7 => ?_) (fun c_7 => ?_)
  · refine lv_iconst (v := nI 0) hx hb dX6_areOfUnlikeFamilies_39 (by decide +kernel) ?_
    exact q_zret hx hb hr hlk (Or.inl rfl) (by first | exact q_bt (decide_eq_true ⟨c_7, c_17, c_32⟩) | exact q_bf (decide_eq_false (fun h => h.1 c_7)) | exact q_bf (decide_eq_false (fun h => h.2.1 c_17)) | exact q_bf (decide_eq_false (fun h => h.2.2 c_32))) hP hS dX6_areOfUnlikeFamilies_40
  · refine lv_aload_n hx hb dX6_areOfUnlikeFamilies_10 rfl (lv_at hl 0 rfl) ?_
    refine q_get hx hb hT hown hK hP kw_X6 0 rfl rfl 2 (by decide) kf_X6_13 rfl (v := .ref (ad 1)) rfl dX6_areOfUnlikeFamilies_11 ?_
    refine lv_iload_n hx hb dX6_areOfUnlikeFamilies_14 rfl (lv_at hl 2 rfl) ?_
    refine q_iald (f := g 1) hx hb hK hP 2 0 rfl rfl (j) rfl (by omega) (by omega) dX6_areOfUnlikeFamilies_15 ?_
    refine lv_iconst (v := (-1)) hx hb dX6_areOfUnlikeFamilies_16 (by decide +kernel) ?_
    refine lv_icmp_eq (tgt := 39) hx hb dX6_areOfUnlikeFamilies_17 (by decide) (fun c_17 => ?_) (fun c_17 => ?_)
    · refine lv_iconst (v := nI 0) hx hb dX6_areOfUnlikeFamilies_39 (by decide +kernel) ?_
      exact q_zret hx hb hr hlk (Or.inl rfl) (by first | exact q_bt (decide_eq_true ⟨c_7, c_17, c_32⟩) | exact q_bf (decide_eq_false (fun h => h.1 c_7)) | exact q_bf (decide_eq_false (fun h => h.2.1 c_17)) | exact q_bf (decide_eq_false (fun h => h.2.2 c_32))) hP hS dX6_areOfUnlikeFamilies_40
    · refine lv_aload_n hx hb dX6_areOfUnlikeFamilies_20 rfl (lv_at hl 0 rfl) ?_
      refine q_get hx hb hT hown hK hP kw_X6 0 rfl rfl 2 (by decide) kf_X6_13 rfl (v := .ref (ad 1)) rfl dX6_areOfUnlikeFamilies_21 ?_
      refine lv_iload_n hx hb dX6_areOfUnlikeFamilies_24 rfl (lv_at hl 1 rfl) ?_
      refine q_iald (f := g 1) hx hb hK hP 2 0 rfl rfl (i) rfl (by omega) (by omega) dX6_areOfUnlikeFamilies_25 ?_
      refine lv_aload_n hx hb dX6_areOfUnlikeFamilies_26 rfl (lv_at hl 0 rfl) ?_
      refine q_get hx hb hT hown hK hP kw_X6 0 rfl rfl 2 (by decide) kf_X6_13 rfl (v := .ref (ad 1)) rfl dX6_areOfUnlikeFamilies_27 ?_
      refine lv_iload_n hx hb dX6_areOfUnlikeFamilies_30 rfl (lv_at hl 2 rfl) ?_
      refine q_iald (f := g 1) hx hb hK hP 2 0 rfl rfl (j) rfl (by omega) (by omega) dX6_areOfUnlikeFamilies_31 ?_
      refine lv_icmp_eq (tgt := 39) hx hb dX6_areOfUnlikeFamilies_32 (by decide) (fun c_32 => ?_) (fun c_32 => ?_)
      · refine lv_iconst (v := nI 0) hx hb dX6_areOfUnlikeFamilies_39 (by decide +kernel) ?_
        exact q_zret hx hb hr hlk (Or.inl rfl) (by first | exact q_bt (decide_eq_true ⟨c_7, c_17, c_32⟩) | exact q_bf (decide_eq_false (fun h => h.1 c_7)) | exact q_bf (decide_eq_false (fun h => h.2.1 c_17)) | exact q_bf (decide_eq_false (fun h => h.2.2 c_32))) hP hS dX6_areOfUnlikeFamilies_40
      · refine lv_iconst (v := nI 1) hx hb dX6_areOfUnlikeFamilies_35 (by decide +kernel) ?_
        refine lv_goto (tgt := 40) hx hb dX6_areOfUnlikeFamilies_36 (by decide) ?_
        exact q_zret hx hb hr hlk (Or.inr rfl) (by first | exact q_bt (decide_eq_true ⟨c_7, c_17, c_32⟩) | exact q_bf (decide_eq_false (fun h => h.1 c_7)) | exact q_bf (decide_eq_false (fun h => h.2.1 c_17)) | exact q_bf (decide_eq_false (fun h => h.2.2 c_32))) hP hS dX6_areOfUnlikeFamilies_40
abbrev rm_X6_areBarred : Room := { frames := 1, cells := 0, slots := 0, locals := 21 }
set_option maxRecDepth 100000 in
set_option maxHeartbeats 4000000 in
theorem c_X6_areBarred (l : Launch) (D : va_G) (cA : ClassId) (ad : Nat → Nat) (g : Nat → Nat → Int32) (z : Nat → Nat) (i : Nat) (j : Nat) (hi : i < (z 0)) (hj : j < (z 0)) (hc : (z 0) ≤ 16) (hPo : ∀ k, k < (z 0) → (g 3) k = (-1) ∨ q_r ((g 3) k) 8) : q_CI l yX6_areBarred [Cond.code yX6_areBarred cX6_areBarred 4 (some .boolean)] rm_X6_areBarred D cA [.ref (ad 80), .int (nI i), .int (nI j)] (mdW cA ad g z) (q_b (abo g i j)) (mdW cA ad g z) := by
  refine q_startI RX6 (by decide +kernel) rfl (Nat.le_of_ble_eq_true rfl) ?_
  intro p e s m below meth c A args H locs ls hx hb hr hml hown hT hlk hP hK hD hA hS hl
  have hl : lv_has ls 4 [(0, .ref (ad 80)), (1, .int (nI i)), (2, .int (nI j))] := hl
  have zqJ48 : ∀ (H : Heap) (locs : List Loc) (ls : Array Slot), va_P D vwCl (mdW cA ad g z) H → va_D A (mdW cA ad g z) → va_S A s.heap H locs → lv_has ls 4 [(0, .ref (ad 80)), (1, .int (nI i)), (2, .int (nI j))] → W p l e rm_X6_areBarred s m args below meth c H locs 0 0 (q_GI D (q_b (abo g i j)) (mdW cA ad g z) A below args s) (F0 m 48 ls [.int (q_b (ab1 g i j))]) := by
    intro   H locs ls hP hD hS hl
    refine lv_istore_n (lv' := [(3, .int (q_b (ab1 g i j))), (0, .ref (ad 80)), (1, .int (nI i)), (2, .int (nI j))]) hx hb dX6_areBarred_48 rfl hl (by decide) rfl (fun ls hl => ?_)
    refine lv_iload_n hx hb dX6_areBarred_49 rfl (lv_at hl 0 rfl) ?_
    refine lv_if_eq (tgt := 102) hx hb dX6_areBarred_50 (by decide) (fun c_50 => ?_) (fun c_50 => ?_)
    · have c_50 := q_b0e c_50
      refine lv_iconst (v := nI 0) hx hb dX6_areBarred_102 (by decide +kernel) ?_
      exact q_zret hx hb hr hlk (Or.inl rfl) (by first | exact q_bt (abo_t c_50 c_65 c_80 c_95) | exact q_bf (abo_f (Or.inl c_50)) | exact q_bf (abo_f (Or.inr (fun h => c_65 h.1))) | exact q_bf (abo_f (Or.inr (fun h => c_80 h.2.1))) | exact q_bf (abo_f (Or.inr (fun h => c_95 h.2.2)))) hP hS dX6_areBarred_103
    · have c_50 := q_b0n c_50
      refine lv_aload_n hx hb dX6_areBarred_53 rfl (lv_at hl 1 rfl) ?_
      refine q_get hx hb hT hown hK hP kw_X6 0 rfl rfl 13 (by decide) kf_X6_46 rfl (v := .ref (ad 17)) rfl dX6_areBarred_54 ?_
      refine lv_iload_n hx hb dX6_areBarred_57 rfl (lv_at hl 2 rfl) ?_
      refine q_iald (f := g 17) hx hb hK hP 13 0 rfl rfl (i) rfl (by omega) (by omega) dX6_areBarred_58 ?_
      refine lv_aload_n hx hb dX6_areBarred_59 rfl (lv_at hl 1 rfl) ?_
      refine q_get hx hb hT hown hK hP kw_X6 0 rfl rfl 14 (by decide) kf_X6_49 rfl (v := .ref (ad 18)) rfl dX6_areBarred_60 ?_
      refine lv_iload_n hx hb dX6_areBarred_63 rfl (lv_at hl 2 rfl) ?_
      refine q_iald (f := g 18) hx hb hK hP 14 0 rfl rfl (i) rfl (by omega) (by omega) dX6_areBarred_64 ?_
      refine lv_icmp_ne (tgt := 102) hx hb dX6_areBarred_65 (by decide) (fun c_65 => ?_) (fun c_65 => ?_)
      · refine lv_iconst (v := nI 0) hx hb dX6_areBarred_102 (by decide +kernel) ?_
        exact q_zret hx hb hr hlk (Or.inl rfl) (by first | exact q_bt (abo_t c_50 c_65 c_80 c_95) | exact q_bf (abo_f (Or.inl c_50)) | exact q_bf (abo_f (Or.inr (fun h => c_65 h.1))) | exact q_bf (abo_f (Or.inr (fun h => c_80 h.2.1))) | exact q_bf (abo_f (Or.inr (fun h => c_95 h.2.2)))) hP hS dX6_areBarred_103
      · refine lv_aload_n hx hb dX6_areBarred_68 rfl (lv_at hl 1 rfl) ?_
        refine q_get hx hb hT hown hK hP kw_X6 0 rfl rfl 13 (by decide) kf_X6_46 rfl (v := .ref (ad 17)) rfl dX6_areBarred_69 ?_
        refine lv_iload_n hx hb dX6_areBarred_72 rfl (lv_at hl 3 rfl) ?_
        refine q_iald (f := g 17) hx hb hK hP 13 0 rfl rfl (j) rfl (by omega) (by omega) dX6_areBarred_73 ?_
        refine lv_aload_n hx hb dX6_areBarred_74 rfl (lv_at hl 1 rfl) ?_
        refine q_get hx hb hT hown hK hP kw_X6 0 rfl rfl 14 (by decide) kf_X6_49 rfl (v := .ref (ad 18)) rfl dX6_areBarred_75 ?_
        refine lv_iload_n hx hb dX6_areBarred_78 rfl (lv_at hl 3 rfl) ?_
        refine q_iald (f := g 18) hx hb hK hP 14 0 rfl rfl (j) rfl (by omega) (by omega) dX6_areBarred_79 ?_
        refine lv_icmp_ne (tgt := 102) hx hb dX6_areBarred_80 (by decide) (fun c_80 => ?_) (fun c_80 => ?_)
        · refine lv_iconst (v := nI 0) hx hb dX6_areBarred_102 (by decide +kernel) ?_
          exact q_zret hx hb hr hlk (Or.inl rfl) (by first | exact q_bt (abo_t c_50 c_65 c_80 c_95) | exact q_bf (abo_f (Or.inl c_50)) | exact q_bf (abo_f (Or.inr (fun h => c_65 h.1))) | exact q_bf (abo_f (Or.inr (fun h => c_80 h.2.1))) | exact q_bf (abo_f (Or.inr (fun h => c_95 h.2.2)))) hP hS dX6_areBarred_103
        · refine lv_aload_n hx hb dX6_areBarred_83 rfl (lv_at hl 1 rfl) ?_
          refine q_get hx hb hT hown hK hP kw_X6 0 rfl rfl 13 (by decide) kf_X6_46 rfl (v := .ref (ad 17)) rfl dX6_areBarred_84 ?_
          refine lv_iload_n hx hb dX6_areBarred_87 rfl (lv_at hl 2 rfl) ?_
          refine q_iald (f := g 17) hx hb hK hP 13 0 rfl rfl (i) rfl (by omega) (by omega) dX6_areBarred_88 ?_
          refine lv_aload_n hx hb dX6_areBarred_89 rfl (lv_at hl 1 rfl) ?_
          refine q_get hx hb hT hown hK hP kw_X6 0 rfl rfl 13 (by decide) kf_X6_46 rfl (v := .ref (ad 17)) rfl dX6_areBarred_90 ?_
          refine lv_iload_n hx hb dX6_areBarred_93 rfl (lv_at hl 3 rfl) ?_
          refine q_iald (f := g 17) hx hb hK hP 13 0 rfl rfl (j) rfl (by omega) (by omega) dX6_areBarred_94 ?_
          refine lv_icmp_ne (tgt := 102) hx hb dX6_areBarred_95 (by decide) (fun c_95 => ?_) (fun c_95 => ?_)
          · refine lv_iconst (v := nI 0) hx hb dX6_areBarred_102 (by decide +kernel) ?_
            exact q_zret hx hb hr hlk (Or.inl rfl) (by first | exact q_bt (abo_t c_50 c_65 c_80 c_95) | exact q_bf (abo_f (Or.inl c_50)) | exact q_bf (abo_f (Or.inr (fun h => c_65 h.1))) | exact q_bf (abo_f (Or.inr (fun h => c_80 h.2.1))) | exact q_bf (abo_f (Or.inr (fun h => c_95 h.2.2)))) hP hS dX6_areBarred_103
          · refine lv_iconst (v := nI 1) hx hb dX6_areBarred_98 (by decide +kernel) ?_
            refine lv_goto (tgt := 103) hx hb dX6_areBarred_99 (by decide) ?_
            exact q_zret hx hb hr hlk (Or.inr rfl) (by first | exact q_bt (abo_t c_50 c_65 c_80 c_95) | exact q_bf (abo_f (Or.inl c_50)) | exact q_bf (abo_f (Or.inr (fun h => c_65 h.1))) | exact q_bf (abo_f (Or.inr (fun h => c_80 h.2.1))) | exact q_bf (abo_f (Or.inr (fun h => c_95 h.2.2)))) hP hS dX6_areBarred_103
  refine lv_aload_n hx hb dX6_areBarred_0 rfl (lv_at hl 0 rfl) ?_
  refine q_get hx hb hT hown hK hP kw_X6 0 rfl rfl 4 (by decide) kf_X6_19 rfl (v := .ref (ad 3)) rfl dX6_areBarred_1 ?_
  refine lv_iload_n hx hb dX6_areBarred_4 rfl (lv_at hl 1 rfl) ?_
  refine q_iald (f := g 3) hx hb hK hP 4 0 rfl rfl (i) rfl (by omega) (by omega) dX6_areBarred_5 ?_
  refine lv_iconst (v := (-1)) hx hb dX6_areBarred_6 (by decide +kernel) ?_
  refine lv_icmp_eq (tgt := 47) hx hb dX6_areBarred_7 (by decide) (fun c_7 => ?_) (fun c_7 => ?_)
  · refine lv_iconst (v := nI 0) hx hb dX6_areBarred_47 (by decide +kernel) ?_
    refine q_top (y := q_b (ab1 g i j)) (by first | exact q_bt (decide_eq_true ⟨c_7, c_17, c_40⟩) | exact q_bf (decide_eq_false (fun h => h.1 c_7)) | exact q_bf (decide_eq_false (fun h => h.2.1 c_17)) | exact q_bf (decide_eq_false (fun h => Bool.false_ne_true (c_40.symm.trans h.2.2)))) ?_
    exact zqJ48   _ _ _ hP hD hS (lv_sub hl [0, 1, 2] rfl)
  · refine lv_aload_n hx hb dX6_areBarred_10 rfl (lv_at hl 0 rfl) ?_
    refine q_get hx hb hT hown hK hP kw_X6 0 rfl rfl 4 (by decide) kf_X6_19 rfl (v := .ref (ad 3)) rfl dX6_areBarred_11 ?_
    refine lv_iload_n hx hb dX6_areBarred_14 rfl (lv_at hl 2 rfl) ?_
    refine q_iald (f := g 3) hx hb hK hP 4 0 rfl rfl (j) rfl (by omega) (by omega) dX6_areBarred_15 ?_
    refine lv_iconst (v := (-1)) hx hb dX6_areBarred_16 (by decide +kernel) ?_
    refine lv_icmp_eq (tgt := 47) hx hb dX6_areBarred_17 (by decide) (fun c_17 => ?_) (fun c_17 => ?_)
    · refine lv_iconst (v := nI 0) hx hb dX6_areBarred_47 (by decide +kernel) ?_
      refine q_top (y := q_b (ab1 g i j)) (by first | exact q_bt (decide_eq_true ⟨c_7, c_17, c_40⟩) | exact q_bf (decide_eq_false (fun h => h.1 c_7)) | exact q_bf (decide_eq_false (fun h => h.2.1 c_17)) | exact q_bf (decide_eq_false (fun h => Bool.false_ne_true (c_40.symm.trans h.2.2)))) ?_
      exact zqJ48   _ _ _ hP hD hS (lv_sub hl [0, 1, 2] rfl)
    · refine lv_aload_n hx hb dX6_areBarred_20 rfl (lv_at hl 0 rfl) ?_
      refine q_get hx hb hT hown hK hP kw_X6 0 rfl rfl 6 (by decide) kf_X6_25 rfl (v := .ref (ad 8)) rfl dX6_areBarred_21 ?_
      refine lv_aload_n hx hb dX6_areBarred_24 rfl (lv_at hl 0 rfl) ?_
      refine q_get hx hb hT hown hK hP kw_X6 0 rfl rfl 4 (by decide) kf_X6_19 rfl (v := .ref (ad 3)) rfl dX6_areBarred_25 ?_
      refine lv_iload_n hx hb dX6_areBarred_28 rfl (lv_at hl 1 rfl) ?_
      refine q_iald (f := g 3) hx hb hK hP 4 0 rfl rfl (i) rfl (by omega) (by omega) dX6_areBarred_29 ?_
      refine q_iald (f := g 8) hx hb hK hP 6 0 rfl rfl (q_n (g 3 i)) (((hPo i (by omega)).resolve_left c_7).eq (by omega)) (((hPo i (by omega)).resolve_left c_7).lt (by omega)) (by omega) dX6_areBarred_30 ?_
      refine q_top (y := rAt 8 (g 8) (g 3 i)) ((rAt_r ((hPo i (by omega)).resolve_left c_7) (by omega)).symm) ?_
      refine lv_aload_n hx hb dX6_areBarred_31 rfl (lv_at hl 0 rfl) ?_
      refine q_get hx hb hT hown hK hP kw_X6 0 rfl rfl 4 (by decide) kf_X6_19 rfl (v := .ref (ad 3)) rfl dX6_areBarred_32 ?_
      refine lv_iload_n hx hb dX6_areBarred_35 rfl (lv_at hl 2 rfl) ?_
      refine q_iald (f := g 3) hx hb hK hP 4 0 rfl rfl (j) rfl (by omega) (by omega) dX6_areBarred_36 ?_
      refine q_callSI (As := [.int (rAt 8 (g 8) (g 3 i)), .int (g 3 j)]) (r := q_b (hasB (rAt 8 (g 8) (g 3 i)) (g 3 j))) hx hb hml hown hT hK hP hD hS hA (c_X6_has l D cA (rAt 8 (g 8) (g 3 i)) (g 3 j)) k_X6_has kl_X6_104 hl rfl rfl (Nat.le_of_ble_eq_true rfl) ⟨⟨rfl, rfl⟩, Nat.le_of_ble_eq_true rfl, Nat.le_of_ble_eq_true rfl⟩ ⟨Nat.zero_le _, Nat.zero_le _⟩ dX6_areBarred_37 (fun H locs hP hD hS => ?_)
      refine lv_if_eq (tgt := 47) hx hb dX6_areBarred_40 (by decide) (fun c_40 => ?_) (fun c_40 => ?_)
      · have c_40 := q_b0e c_40
        refine lv_iconst (v := nI 0) hx hb dX6_areBarred_47 (by decide +kernel) ?_
        refine q_top (y := q_b (ab1 g i j)) (by first | exact q_bt (decide_eq_true ⟨c_7, c_17, c_40⟩) | exact q_bf (decide_eq_false (fun h => h.1 c_7)) | exact q_bf (decide_eq_false (fun h => h.2.1 c_17)) | exact q_bf (decide_eq_false (fun h => Bool.false_ne_true (c_40.symm.trans h.2.2)))) ?_
        exact zqJ48   _ _ _ hP hD hS (lv_sub hl [0, 1, 2] rfl)
      · have c_40 := q_b0n c_40
        refine lv_iconst (v := nI 1) hx hb dX6_areBarred_43 (by decide +kernel) ?_
        refine lv_goto (tgt := 48) hx hb dX6_areBarred_44 (by decide) ?_
        refine q_top (y := q_b (ab1 g i j)) (by first | exact q_bt (decide_eq_true ⟨c_7, c_17, c_40⟩) | exact q_bf (decide_eq_false (fun h => h.1 c_7)) | exact q_bf (decide_eq_false (fun h => h.2.1 c_17)) | exact q_bf (decide_eq_false (fun h => Bool.false_ne_true (c_40.symm.trans h.2.2)))) ?_
        exact zqJ48   _ _ _ hP hD hS (lv_sub hl [0, 1, 2] rfl)
abbrev rm_X6_hasReason : Room := { frames := 2, cells := 0, slots := 0, locals := 44 }
set_option maxRecDepth 100000 in
set_option maxHeartbeats 4000000 in
theorem c_X6_hasReason (l : Launch) (D : va_G) (cA : ClassId) (ad : Nat → Nat) (g : Nat → Nat → Int32) (z : Nat → Nat) (i : Nat) (j : Nat) (r : Nat) (hi : i < (z 0)) (hj : j < (z 0)) (hc : (z 0) ≤ 16) (hPo : ∀ k, k < (z 0) → (g 3) k = (-1) ∨ q_r ((g 3) k) 8) (hr2 : 2 ≤ r) (hr4 : r ≤ 4) : q_CI l yX6_hasReason [Cond.code yX6_hasReason cX6_hasReason 7 (some .boolean)] rm_X6_hasReason D cA [.ref (ad 80), .int (nI i), .int (nI j), .int (nI r)] (mdW cA ad g z) (q_b (hrO g (z 0) r i j (z 0))) (mdW cA ad g z) := by
  refine q_startI RX6 (by decide +kernel) rfl (Nat.le_of_ble_eq_true rfl) ?_
  intro p e s m below meth c A args H locs ls hx hb hr hml hown hT hlk hP hK hD hA hS hl
  have hl : lv_has ls 7 [(0, .ref (ad 80)), (1, .int (nI i)), (2, .int (nI j)), (3, .int (nI r))] := hl
  have zqL6 : ∀ (fu : Nat), ∀ (k : Nat), (z 0 + 1 ≤ k + fu) → (k ≤ (z 0)) → ∀ (H : Heap) (locs : List Loc) (ls : Array Slot), va_P D vwCl (mdW cA ad g z) H → va_D A (mdW cA ad g z) → va_S A s.heap H locs → lv_has ls 7 [(0, .ref (ad 80)), (1, .int (nI i)), (2, .int (nI j)), (3, .int (nI r)), (4, .int (q_b (hrO g (z 0) r i j k))), (5, .int (nI k))] → W p l e rm_X6_hasReason s m args below meth c H locs 0 0 (q_GI D (q_b (hrO g (z 0) r i j (z 0))) (mdW cA ad g z) A below args s) (F0 m 6 ls []) := by
    intro fu
    induction fu with
    | zero =>
      intro k hfu hk H locs ls hP hD hS hl
      exfalso; omega
    | succ fu ih6 =>
      intro k hfu hk H locs ls hP hD hS hl
      have zqL18 : ∀ (fu : Nat), ∀ (m9 : Nat), (z 0 + 1 ≤ m9 + fu) → (m9 ≤ (z 0)) → (k < (z 0)) → ∀ (H : Heap) (locs : List Loc) (ls : Array Slot), va_P D vwCl (mdW cA ad g z) H → va_D A (mdW cA ad g z) → va_S A s.heap H locs → lv_has ls 7 [(0, .ref (ad 80)), (1, .int (nI i)), (2, .int (nI j)), (3, .int (nI r)), (4, .int (q_b (hrI g r i j (hrO g (z 0) r i j k) k m9))), (5, .int (nI k)), (6, .int (nI m9))] → W p l e rm_X6_hasReason s m args below meth c H locs 0 0 (q_GI D (q_b (hrO g (z 0) r i j (z 0))) (mdW cA ad g z) A below args s) (F0 m 18 ls []) := by
        intro fu
        induction fu with
        | zero =>
          intro m9 hfu hm8 hk9 H locs ls hP hD hS hl
          exfalso; omega
        | succ fu ih18 =>
          intro m9 hfu hm8 hk9 H locs ls hP hD hS hl
          have zqJ108 : (m9 < (z 0)) → ∀ (H : Heap) (locs : List Loc) (ls : Array Slot), va_P D vwCl (mdW cA ad g z) H → va_D A (mdW cA ad g z) → va_S A s.heap H locs → lv_has ls 7 [(0, .ref (ad 80)), (1, .int (nI i)), (2, .int (nI j)), (3, .int (nI r)), (4, .int (q_b (hrI g r i j (hrO g (z 0) r i j k) k (m9 + 1)))), (5, .int (nI k)), (6, .int (nI m9))] → W p l e rm_X6_hasReason s m args below meth c H locs 0 0 (q_GI D (q_b (hrO g (z 0) r i j (z 0))) (mdW cA ad g z) A below args s) (F0 m 108 ls []) := by
            intro  hm7 H locs ls hP hD hS hl
            refine lv_iinc (v := nI (m9 + 1)) (lv' := [(6, .int (nI (m9 + 1))), (0, .ref (ad 80)), (1, .int (nI i)), (2, .int (nI j)), (3, .int (nI r)), (4, .int (q_b (hrI g r i j (hrO g (z 0) r i j k) k (m9 + 1)))), (5, .int (nI k))]) hx hb dX6_hasReason_108 hl (k := 6) rfl (q_inc1 _) (by decide) rfl (fun ls hl => ?_)
            refine lv_goto (tgt := 18) hx hb dX6_hasReason_111 (by decide) ?_
            exact ih18 (m9 + 1) (by omega) (by omega) (by omega) _ _ _ hP hD hS (lv_sub hl [1, 2, 3, 4, 5, 6, 0] rfl)
          have zqJ105 : (m9 < (z 0)) → ((g 22) k = (g 22) i) → ((g 22) m9 = (g 22) j) → ∀ (H : Heap) (locs : List Loc) (ls : Array Slot), va_P D vwCl (mdW cA ad g z) H → va_D A (mdW cA ad g z) → va_S A s.heap H locs → lv_has ls 7 [(0, .ref (ad 80)), (1, .int (nI i)), (2, .int (nI j)), (3, .int (nI r)), (5, .int (nI k)), (6, .int (nI m9))] → W p l e rm_X6_hasReason s m args below meth c H locs 0 0 (q_GI D (q_b (hrO g (z 0) r i j (z 0))) (mdW cA ad g z) A below args s) (F0 m 105 ls [.int (q_b (prB g r k m9)), .int (q_b (hrI g r i j (hrO g (z 0) r i j k) k m9))]) := by
            intro  hm7 hA1 hA2 H locs ls hP hD hS hl
            refine lv_ior hx hb dX6_hasReason_105 ?_
            refine q_top (y := q_b (hrI g r i j (hrO g (z 0) r i j k) k m9 || prB g r k m9)) (q_b_orb _ _) ?_
            refine lv_istore (lv' := [(4, .int (q_b (hrI g r i j (hrO g (z 0) r i j k) k m9 || prB g r k m9))), (0, .ref (ad 80)), (1, .int (nI i)), (2, .int (nI j)), (3, .int (nI r)), (5, .int (nI k)), (6, .int (nI m9))]) hx hb dX6_hasReason_106 hl (by decide) rfl (fun ls hl => ?_)
            have e9_0 : (q_b (hrI g r i j (hrO g (z 0) r i j k) k m9 || prB g r k m9)) = (q_b (hrI g r i j (hrO g (z 0) r i j k) k (m9 + 1))) := by first | with_reducible rfl | (first | exact congrArg q_b (hrI_t hA1 hA2) | exact congrArg q_b (hrI_f (fun h => c_40 h.1)) | exact congrArg q_b (hrI_f (fun h => c_56 h.2)))
            have hl9 : lv_has ls 7 [(0, .ref (ad 80)), (1, .int (nI i)), (2, .int (nI j)), (3, .int (nI r)), (4, .int (q_b (hrI g r i j (hrO g (z 0) r i j k) k (m9 + 1)))), (5, .int (nI k)), (6, .int (nI m9))] := lv_cast (l := [(0, .ref (ad 80)), (1, .int (nI i)), (2, .int (nI j)), (3, .int (nI r)), (4, .int (q_b (hrI g r i j (hrO g (z 0) r i j k) k m9 || prB g r k m9))), (5, .int (nI k)), (6, .int (nI m9))]) (lv_sub hl [1, 2, 3, 4, 0, 5, 6] rfl) (congrArg (fun v9 : Int32 => ([(0, .ref (ad 80)), (1, .int (nI i)), (2, .int (nI j)), (3, .int (nI r)), (4, .int v9), (5, .int (nI k)), (6, .int (nI m9))] : List (Nat × Value))) e9_0)
            exact zqJ108  (by omega) _ _ _ hP hD hS hl9
          refine lv_iload hx hb dX6_hasReason_18 (lv_at hl 6 rfl) ?_
          refine lv_aload_n hx hb dX6_hasReason_20 rfl (lv_at hl 0 rfl) ?_
          refine q_get hx hb hT hown hK hP kw_X6 0 rfl rfl 0 (by decide) kf_X6_86 rfl (v := .int (nI (z 0))) rfl dX6_hasReason_21 ?_
          refine lv_icmp_ge (tgt := 114) hx hb dX6_hasReason_24 (by decide) (fun c_24 => ?_) (fun c_24 => ?_)
          · have c_24 := nI_le1 (a := z 0) (b := m9) (by omega) (by omega) c_24
            refine lv_iinc (v := nI (k + 1)) (lv' := [(5, .int (nI (k + 1))), (0, .ref (ad 80)), (1, .int (nI i)), (2, .int (nI j)), (3, .int (nI r)), (4, .int (q_b (hrI g r i j (hrO g (z 0) r i j k) k m9))), (6, .int (nI m9))]) hx hb dX6_hasReason_114 hl (k := 5) rfl (q_inc1 _) (by decide) rfl (fun ls hl => ?_)
            refine lv_goto (tgt := 6) hx hb dX6_hasReason_117 (by decide) ?_
            have e9_0 : (q_b (hrI g r i j (hrO g (z 0) r i j k) k m9)) = (q_b (hrO g (z 0) r i j (k + 1))) := by first | with_reducible rfl | (rw [show m9 = z 0 by omega]; rfl)
            have hl9 : lv_has ls 7 [(0, .ref (ad 80)), (1, .int (nI i)), (2, .int (nI j)), (3, .int (nI r)), (4, .int (q_b (hrO g (z 0) r i j (k + 1)))), (5, .int (nI (k + 1)))] := lv_cast (l := [(0, .ref (ad 80)), (1, .int (nI i)), (2, .int (nI j)), (3, .int (nI r)), (4, .int (q_b (hrI g r i j (hrO g (z 0) r i j k) k m9))), (5, .int (nI (k + 1)))]) (lv_sub hl [1, 2, 3, 4, 5, 0] rfl) (congrArg (fun v9 : Int32 => ([(0, .ref (ad 80)), (1, .int (nI i)), (2, .int (nI j)), (3, .int (nI r)), (4, .int v9), (5, .int (nI (k + 1)))] : List (Nat × Value))) e9_0)
            exact ih6 (k + 1) (by omega) (by omega) _ _ _ hP hD hS hl9
          · have c_24 := nI_le0 (a := z 0) (b := m9) (by omega) (by omega) c_24
            refine lv_aload_n hx hb dX6_hasReason_27 rfl (lv_at hl 0 rfl) ?_
            refine q_get hx hb hT hown hK hP kw_X6 0 rfl rfl 22 (by decide) kf_X6_67 rfl (v := .ref (ad 22)) rfl dX6_hasReason_28 ?_
            refine lv_iload hx hb dX6_hasReason_31 (lv_at hl 5 rfl) ?_
            refine q_iald (f := g 22) hx hb hK hP 20 0 rfl rfl (k) rfl (by omega) (by omega) dX6_hasReason_33 ?_
            refine lv_aload_n hx hb dX6_hasReason_34 rfl (lv_at hl 0 rfl) ?_
            refine q_get hx hb hT hown hK hP kw_X6 0 rfl rfl 22 (by decide) kf_X6_67 rfl (v := .ref (ad 22)) rfl dX6_hasReason_35 ?_
            refine lv_iload_n hx hb dX6_hasReason_38 rfl (lv_at hl 1 rfl) ?_
            refine q_iald (f := g 22) hx hb hK hP 20 0 rfl rfl (i) rfl (by omega) (by omega) dX6_hasReason_39 ?_
            refine lv_icmp_ne (tgt := 108) hx hb dX6_hasReason_40 (by decide) (fun c_40 => ?_) (fun c_40 => ?_)
            · have e9_0 : (q_b (hrI g r i j (hrO g (z 0) r i j k) k m9)) = (q_b (hrI g r i j (hrO g (z 0) r i j k) k (m9 + 1))) := by first | with_reducible rfl | (first | exact congrArg q_b (hrI_t hA1 hA2) | exact congrArg q_b (hrI_f (fun h => c_40 h.1)) | exact congrArg q_b (hrI_f (fun h => c_56 h.2)))
              have hl9 : lv_has ls 7 [(0, .ref (ad 80)), (1, .int (nI i)), (2, .int (nI j)), (3, .int (nI r)), (4, .int (q_b (hrI g r i j (hrO g (z 0) r i j k) k (m9 + 1)))), (5, .int (nI k)), (6, .int (nI m9))] := lv_cast (l := [(0, .ref (ad 80)), (1, .int (nI i)), (2, .int (nI j)), (3, .int (nI r)), (4, .int (q_b (hrI g r i j (hrO g (z 0) r i j k) k m9))), (5, .int (nI k)), (6, .int (nI m9))]) (lv_sub hl [0, 1, 2, 3, 4, 5, 6] rfl) (congrArg (fun v9 : Int32 => ([(0, .ref (ad 80)), (1, .int (nI i)), (2, .int (nI j)), (3, .int (nI r)), (4, .int v9), (5, .int (nI k)), (6, .int (nI m9))] : List (Nat × Value))) e9_0)
              exact zqJ108  (by omega) _ _ _ hP hD hS hl9
            · refine lv_aload_n hx hb dX6_hasReason_43 rfl (lv_at hl 0 rfl) ?_
              refine q_get hx hb hT hown hK hP kw_X6 0 rfl rfl 22 (by decide) kf_X6_67 rfl (v := .ref (ad 22)) rfl dX6_hasReason_44 ?_
              refine lv_iload hx hb dX6_hasReason_47 (lv_at hl 6 rfl) ?_
              refine q_iald (f := g 22) hx hb hK hP 20 0 rfl rfl (m9) rfl (by omega) (by omega) dX6_hasReason_49 ?_
              refine lv_aload_n hx hb dX6_hasReason_50 rfl (lv_at hl 0 rfl) ?_
              refine q_get hx hb hT hown hK hP kw_X6 0 rfl rfl 22 (by decide) kf_X6_67 rfl (v := .ref (ad 22)) rfl dX6_hasReason_51 ?_
              refine lv_iload_n hx hb dX6_hasReason_54 rfl (lv_at hl 2 rfl) ?_
              refine q_iald (f := g 22) hx hb hK hP 20 0 rfl rfl (j) rfl (by omega) (by omega) dX6_hasReason_55 ?_
              refine lv_icmp_ne (tgt := 108) hx hb dX6_hasReason_56 (by decide) (fun c_56 => ?_) (fun c_56 => ?_)
              · have e9_0 : (q_b (hrI g r i j (hrO g (z 0) r i j k) k m9)) = (q_b (hrI g r i j (hrO g (z 0) r i j k) k (m9 + 1))) := by first | with_reducible rfl | (first | exact congrArg q_b (hrI_t hA1 hA2) | exact congrArg q_b (hrI_f (fun h => c_40 h.1)) | exact congrArg q_b (hrI_f (fun h => c_56 h.2)))
                have hl9 : lv_has ls 7 [(0, .ref (ad 80)), (1, .int (nI i)), (2, .int (nI j)), (3, .int (nI r)), (4, .int (q_b (hrI g r i j (hrO g (z 0) r i j k) k (m9 + 1)))), (5, .int (nI k)), (6, .int (nI m9))] := lv_cast (l := [(0, .ref (ad 80)), (1, .int (nI i)), (2, .int (nI j)), (3, .int (nI r)), (4, .int (q_b (hrI g r i j (hrO g (z 0) r i j k) k m9))), (5, .int (nI k)), (6, .int (nI m9))]) (lv_sub hl [0, 1, 2, 3, 4, 5, 6] rfl) (congrArg (fun v9 : Int32 => ([(0, .ref (ad 80)), (1, .int (nI i)), (2, .int (nI j)), (3, .int (nI r)), (4, .int v9), (5, .int (nI k)), (6, .int (nI m9))] : List (Nat × Value))) e9_0)
                exact zqJ108  (by omega) _ _ _ hP hD hS hl9
              · refine lv_iload hx hb dX6_hasReason_59 (lv_at hl 4 rfl) ?_
                refine lv_iload_n hx hb dX6_hasReason_61 rfl (lv_at hl 3 rfl) ?_
                refine lv_iconst (v := nI 2) hx hb dX6_hasReason_62 (by decide +kernel) ?_
                refine lv_icmp_ne (tgt := 81) hx hb dX6_hasReason_63 (by decide) (fun c_63 => ?_) (fun c_63 => ?_)
                · have c_63 := nI_eq0 (a := r) (b := 2) (by omega) (by omega) c_63
                  refine lv_iload_n hx hb dX6_hasReason_81 rfl (lv_at hl 3 rfl) ?_
                  refine lv_iconst (v := nI 3) hx hb dX6_hasReason_82 (by decide +kernel) ?_
                  refine lv_icmp_ne (tgt := 97) hx hb dX6_hasReason_83 (by decide) (fun c_83 => ?_) (fun c_83 => ?_)
                  · have c_83 := nI_eq0 (a := r) (b := 3) (by omega) (by omega) c_83
                    refine lv_aload_n hx hb dX6_hasReason_97 rfl (lv_at hl 0 rfl) ?_
                    refine lv_iload hx hb dX6_hasReason_98 (lv_at hl 5 rfl) ?_
                    refine lv_iload hx hb dX6_hasReason_100 (lv_at hl 6 rfl) ?_
                    refine q_callIW (As := [.int (nI k), .int (nI m9)]) (r := q_b (abo g k m9)) (w1 := mdW cA ad g z) hx hb hml hown hT hK hP hD hS hA (c_X6_areBarred l D cA ad g z k m9 (show k < (z 0) by omega) (show m9 < (z 0) by omega) (show (z 0) ≤ 16 by omega) hPo) k_X6_areBarred kl_X6_146 (q0 := 0) rfl rfl rfl ((mdW_adr _ _ _ _).trans (mdW_adr _ _ _ _).symm) hl rfl rfl (Nat.le_of_ble_eq_true rfl) ⟨⟨rfl, rfl⟩, Nat.le_of_ble_eq_true rfl, Nat.le_of_ble_eq_true rfl⟩ ⟨Nat.zero_le _, Nat.zero_le _⟩ dX6_hasReason_102 (fun H locs hP hD hS => ?_)
                    refine q_top (y := q_b (prB g r k m9)) (by first | rw [prB, if_pos c_63] | rw [prB, if_neg c_63, if_pos c_83] | rw [prB, if_neg c_63, if_neg c_83]) ?_
                    exact zqJ105  (by omega) c_40 c_56 _ _ _ hP hD hS (lv_sub hl [0, 1, 2, 3, 5, 6] rfl)
                  · have c_83 := nI_eq1 (a := r) (b := 3) (by omega) (by omega) c_83
                    refine lv_aload_n hx hb dX6_hasReason_86 rfl (lv_at hl 0 rfl) ?_
                    refine lv_iload hx hb dX6_hasReason_87 (lv_at hl 5 rfl) ?_
                    refine lv_iload hx hb dX6_hasReason_89 (lv_at hl 6 rfl) ?_
                    refine q_callIW (As := [.int (nI k), .int (nI m9)]) (r := q_b (hof ((g 1) k) ((g 1) m9))) (w1 := mdW cA ad g z) hx hb hml hown hT hK hP hD hS hA (c_X6_areOfUnlikeFamilies l D cA ad g z k m9 (show k < 16 by omega) (show m9 < 16 by omega)) k_X6_areOfUnlikeFamilies kl_X6_143 (q0 := 0) rfl rfl rfl ((mdW_adr _ _ _ _).trans (mdW_adr _ _ _ _).symm) hl rfl rfl (Nat.le_of_ble_eq_true rfl) ⟨⟨rfl, rfl⟩, Nat.le_of_ble_eq_true rfl, Nat.le_of_ble_eq_true rfl⟩ ⟨Nat.zero_le _, Nat.zero_le _⟩ dX6_hasReason_91 (fun H locs hP hD hS => ?_)
                    refine lv_goto (tgt := 105) hx hb dX6_hasReason_94 (by decide) ?_
                    refine q_top (y := q_b (prB g r k m9)) (by first | rw [prB, if_pos c_63] | rw [prB, if_neg c_63, if_pos c_83] | rw [prB, if_neg c_63, if_neg c_83]) ?_
                    exact zqJ105  (by omega) c_40 c_56 _ _ _ hP hD hS (lv_sub hl [0, 1, 2, 3, 5, 6] rfl)
                · have c_63 := nI_eq1 (a := r) (b := 2) (by omega) (by omega) c_63
                  refine lv_aload_n hx hb dX6_hasReason_66 rfl (lv_at hl 0 rfl) ?_
                  refine q_get hx hb hT hown hK hP kw_X6 0 rfl rfl 8 (by decide) kf_X6_31 rfl (v := .ref (ad 10)) rfl dX6_hasReason_67 ?_
                  refine lv_iload hx hb dX6_hasReason_70 (lv_at hl 5 rfl) ?_
                  refine q_iald (f := g 10) hx hb hK hP 8 0 rfl rfl (k) rfl (by omega) (by omega) dX6_hasReason_72 ?_
                  refine lv_iload hx hb dX6_hasReason_73 (lv_at hl 6 rfl) ?_
                  refine q_callSI (As := [.int (g 10 k), .int (nI m9)]) (r := q_b (hasB (g 10 k) (nI m9))) hx hb hml hown hT hK hP hD hS hA (c_X6_has l D cA (g 10 k) (nI m9)) k_X6_has kl_X6_104 hl rfl rfl (Nat.le_of_ble_eq_true rfl) ⟨⟨rfl, rfl⟩, Nat.le_of_ble_eq_true rfl, Nat.le_of_ble_eq_true rfl⟩ ⟨Nat.zero_le _, Nat.zero_le _⟩ dX6_hasReason_75 (fun H locs hP hD hS => ?_)
                  refine lv_goto (tgt := 105) hx hb dX6_hasReason_78 (by decide) ?_
                  refine q_top (y := q_b (prB g r k m9)) (by first | rw [prB, if_pos c_63] | rw [prB, if_neg c_63, if_pos c_83] | rw [prB, if_neg c_63, if_neg c_83]) ?_
                  exact zqJ105  (by omega) c_40 c_56 _ _ _ hP hD hS (lv_sub hl [0, 1, 2, 3, 5, 6] rfl)
      refine lv_iload hx hb dX6_hasReason_6 (lv_at hl 5 rfl) ?_
      refine lv_aload_n hx hb dX6_hasReason_8 rfl (lv_at hl 0 rfl) ?_
      refine q_get hx hb hT hown hK hP kw_X6 0 rfl rfl 0 (by decide) kf_X6_86 rfl (v := .int (nI (z 0))) rfl dX6_hasReason_9 ?_
      refine lv_icmp_ge (tgt := 120) hx hb dX6_hasReason_12 (by decide) (fun c_12 => ?_) (fun c_12 => ?_)
      · have c_12 := nI_le1 (a := z 0) (b := k) (by omega) (by omega) c_12
        refine lv_iload hx hb dX6_hasReason_120 (lv_at hl 4 rfl) ?_
        exact q_zret hx hb hr hlk (q_b_or _) (by rw [show k = z 0 by omega]) hP hS dX6_hasReason_122
      · have c_12 := nI_le0 (a := z 0) (b := k) (by omega) (by omega) c_12
        refine lv_iconst (v := nI 0) hx hb dX6_hasReason_15 (by decide +kernel) ?_
        refine lv_istore (lv' := [(6, .int (nI 0)), (0, .ref (ad 80)), (1, .int (nI i)), (2, .int (nI j)), (3, .int (nI r)), (4, .int (q_b (hrO g (z 0) r i j k))), (5, .int (nI k))]) hx hb dX6_hasReason_16 hl (by decide) rfl (fun ls hl => ?_)
        have e9_0 : (q_b (hrO g (z 0) r i j k)) = (q_b (hrI g r i j (hrO g (z 0) r i j k) k 0)) := by first | with_reducible rfl | (rfl)
        have hl9 : lv_has ls 7 [(0, .ref (ad 80)), (1, .int (nI i)), (2, .int (nI j)), (3, .int (nI r)), (4, .int (q_b (hrI g r i j (hrO g (z 0) r i j k) k 0))), (5, .int (nI k)), (6, .int (nI 0))] := lv_cast (l := [(0, .ref (ad 80)), (1, .int (nI i)), (2, .int (nI j)), (3, .int (nI r)), (4, .int (q_b (hrO g (z 0) r i j k))), (5, .int (nI k)), (6, .int (nI 0))]) (lv_sub hl [1, 2, 3, 4, 5, 6, 0] rfl) (congrArg (fun v9 : Int32 => ([(0, .ref (ad 80)), (1, .int (nI i)), (2, .int (nI j)), (3, .int (nI r)), (4, .int v9), (5, .int (nI k)), (6, .int (nI 0))] : List (Nat × Value))) e9_0)
        exact zqL18 (z 0 + 1) 0 (by omega) (by omega) (by omega) _ _ _ hP hD hS hl9
  refine lv_iconst (v := nI 0) hx hb dX6_hasReason_0 (by decide +kernel) ?_
  refine lv_istore (lv' := [(4, .int (nI 0)), (0, .ref (ad 80)), (1, .int (nI i)), (2, .int (nI j)), (3, .int (nI r))]) hx hb dX6_hasReason_1 hl (by decide) rfl (fun ls hl => ?_)
  refine lv_iconst (v := nI 0) hx hb dX6_hasReason_3 (by decide +kernel) ?_
  refine lv_istore (lv' := [(5, .int (nI 0)), (4, .int (nI 0)), (0, .ref (ad 80)), (1, .int (nI i)), (2, .int (nI j)), (3, .int (nI r))]) hx hb dX6_hasReason_4 hl (by decide) rfl (fun ls hl => ?_)
  have e9_0 : (nI 0) = (q_b (hrO g (z 0) r i j 0)) := by first | with_reducible rfl | (rfl)
  have hl9 : lv_has ls 7 [(0, .ref (ad 80)), (1, .int (nI i)), (2, .int (nI j)), (3, .int (nI r)), (4, .int (q_b (hrO g (z 0) r i j 0))), (5, .int (nI 0))] := lv_cast (l := [(0, .ref (ad 80)), (1, .int (nI i)), (2, .int (nI j)), (3, .int (nI r)), (4, .int (nI 0)), (5, .int (nI 0))]) (lv_sub hl [2, 3, 4, 5, 1, 0] rfl) (congrArg (fun v9 : Int32 => ([(0, .ref (ad 80)), (1, .int (nI i)), (2, .int (nI j)), (3, .int (nI r)), (4, .int v9), (5, .int (nI 0))] : List (Nat × Value))) e9_0)
  exact zqL6 (z 0 + 1) 0 (by omega) (by omega) _ _ _ hP hD hS hl9
