/-! the law's loop: its cases -/
abbrev lwA (s : State) : Nat → Prop := fun q => s.heap.size ≤ q
abbrev lvL (b0 : Nat) (ad : Nat → Nat) (a b k : Nat) : List (Nat × Value) := [(0, .ref b0), (1, .ref (ad 70)), (2, .int (nI a)), (3, .int (nI b)), (4, .int (nI k))]
/-- from a place of the loop on -/
abbrev LK (p : Program) (l : Launch) (e : Env) (s : State) (m : MethodId) (below : List Frame) (meth : Method) (c : Code) (b0 : Nat) (D : va_G) (cA : ClassId) (ad : Nat → Nat) (k cells slots : Nat) (Q : State → Prop) (pcx : Nat) : Prop := ∀ (g : Nat → Nat → Int32) (z : Nat → Nat) (H : Heap) (locs : List Loc) (ls : Array Slot) (a b : Nat), inv g z → z 0 = a → z 2 = b → va_P D vwCl (rlW cA ad g z) H → va_D (lwA s) (rlW cA ad g z) → va_S (lwA s) s.heap H locs → lv_has ls 15 (lvL b0 ad a b k) → W p l e room_1 s m #[.ref b0] below meth c H locs cells slots Q (F0 m pcx ls [])
theorem mfa {q : Nat} (h : q < 3) : ¬ nI q < nI 0 ∧ nI q ≤ nI 9 := ⟨nI_nlt (by omega) (by omega), nI_le (by omega) (by omega)⟩
theorem mfb {q : Nat} (h : q < 4) : ¬ nI q - nI 1 < (-1) ∧ nI q - nI 1 ≤ nI 9 := by
  rcases (show q = 0 ∨ q = 1 ∨ q = 2 ∨ q = 3 by omega) with rfl | rfl | rfl | rfl <;> decide +kernel
theorem mfc {q : Nat} (h : q < 6) : ¬ nI q < nI 0 ∧ nI q ≤ nI 5 := ⟨nI_nlt (by omega) (by omega), nI_le (by omega) (by omega)⟩
theorem mfd {q : Nat} (h : q < 9) : nI q - nI 1 = (-1) ∨ q_r (nI q - nI 1) 8 := by
  rcases Nat.eq_zero_or_pos q with rfl | h0
  · exact Or.inl (by decide +kernel)
  · exact Or.inr ⟨q - 1, by omega, pk_sub (by omega)⟩
theorem gapR {q : Nat} (h : q < 101) : ¬ nI q - nI 50 < (-50) ∧ nI q - nI 50 ≤ nI 50 := by
  rw [zz_lt, zz_le, m50, p50, pk_sub_toInt (by omega) (by omega)]
  omega
theorem gapS {F : Int32} {q : Nat} (hF : 0 ≤ F.toInt ∧ F.toInt ≤ 999) (h : q < 101) : (F + nI q - nI 50).toInt = F.toInt + ((q : Nat) : Int) - 50 := by
  have e1 : (nI q).toInt = ((q : Nat) : Int) := nI_toInt (by omega)
  have e2 : (F + nI q).toInt = F.toInt + ((q : Nat) : Int) := by rw [zz_add (by omega) (by omega), e1]
  rw [zz_sub (by rw [e2, p50]; omega) (by rw [e2, p50]; omega), e2, p50]
theorem loR {q : Nat} (h : q < 1000) : ¬ nI q < nI 0 ∧ nI q ≤ nI 999 := ⟨nI_nlt (by omega) (by omega), nI_le (by omega) (by omega)⟩
theorem hiR {q r : Nat} (h : q ≤ r) (h2 : r < 1000) : ¬ nI r < nI q ∧ nI r ≤ nI 999 := ⟨nI_nlt (by omega) (by omega), nI_le (by omega) (by omega)⟩
theorem rkR {q : Nat} (h : q < 10) : ¬ nI q < nI 0 ∧ nI q ≤ nI 9 := ⟨nI_nlt (by omega) (by omega), nI_le (by omega) (by omega)⟩
theorem lbR {q : Nat} (h : q < 17) : ¬ nI q - nI 1 < (-1) ∧ nI q - nI 1 ≤ nI 15 := by
  rw [zz_lt, zz_le, pk_sub_toInt (by omega) (by omega), nI_toInt (by omega), show ((-1 : Int32)).toInt = -1 from by decide +kernel]
  omega
def dgv (g : Nat → Nat → Int32) (i j : Nat) : Nat := if q_n (g 22 i) = q_n (g 22 j) then 0 else 1
theorem dgv_le (g : Nat → Nat → Int32) (i j : Nat) : dgv g i j ≤ 1 := by unfold dgv; split <;> omega
theorem dgv_sy (g : Nat → Nat → Int32) (i j : Nat) : dgv g i j = dgv g j i := by
  unfold dgv
  by_cases h : q_n (g 22 i) = q_n (g 22 j)
  · rw [if_pos h, if_pos h.symm]
  · rw [if_neg h, if_neg (fun q => h q.symm)]
section SX
variable {l : Launch} {D : va_G} {cA : ClassId} {ad : Nat → Nat} {g0 g : Nat → Nat → Int32} {z : Nat → Nat} {a t b : Nat}
theorem sq_weight (hs : SR g0 a t b g z) {i j : Nat} (hi : i < a) (hj : j < a) (hij : ¬ i = j) : ∃ g2 z2, q_CI l yX5_weight [Cond.code yX5_weight cX5_weight 3 (some .int)] rm_X5_weight D cA [.ref (ad 70), .int (nI i), .int (nI j)] (rlW cA ad g z) (nI (wtN g0 i j)) (rlW cA ad g2 z2) ∧ SR g0 a t b g2 z2 := by
  have c5 := c_X5_weight l D cA ad g z i j (by rw [hs.2.1]; exact hi) (by rw [hs.2.1]; exact hj) hs.2.2.2.2.hz0 hij
  rw [wtN_cg (g' := g) (g := g0) (hs.1 0 rfl) (hs.1 1 rfl) (hs.1 2 rfl) (hs.1 3 rfl) (hs.1 9 rfl)] at c5
  exact ⟨g, z, c5, hs⟩
theorem sq_degK (hs : SR g0 a t b g z) (hsl : ∀ q, q < a → g0 23 (q_n (g0 22 q)) = g0 22 q) {i j : Nat} (hi : i < a) (hj : j < a) (hk : hasB (g0 11 i) (nI j) = true ∨ q_n (g0 22 i) = q_n (g0 22 j)) : ∃ g2 z2, q_CI l yX5_degree [Cond.code yX5_degree cX5_degree 3 (some .int)] rm_X5_degree D cA [.ref (ad 70), .int (nI (q_n (g0 22 i))), .int (nI (q_n (g0 22 j)))] (rlW cA ad g z) (nI (dgv g0 i j)) (rlW cA ad g2 z2) ∧ SR g0 a t b g2 z2 := by
  have hI := hs.2.2.2.2
  have h2 := hI.hz2
  have own : ∀ k, k < a → q_n (g0 22 k) < b := fun k hk => by
    have q := (hI.own k (by rw [hs.2.1]; exact hk)).lt (by omega)
    rw [hs.1 22 rfl, hs.2.2.2.1] at q
    exact q
  obtain ⟨g2, z2, c5, hs2⟩ := sq_degree (l := l) (D := D) (cA := cA) (ad := ad) hs (own i hi) (own j hj)
  refine ⟨g2, z2, q_CIr c5 ?_, hs2⟩
  rw [hsl i hi, hsl j hj, dg_1 hi hj hk]
  unfold dgv
  split <;> rfl
theorem sm_wm_t (hI : inv g z) {i mm : Nat} {lo hi : Int32} (hk : i < z 0) (hlo : ¬ lo < nI 0 ∧ lo ≤ nI 999) (hhi : ¬ hi < lo ∧ hi ≤ nI 999) (hd : fnD g z i lo hi = true) (hm : fnM g z i lo hi = mm) : ∃ g2 z2, q_CI l yX5_wouldMove [Cond.code yX5_wouldMove cX5_wouldMove 4 (some .int)] rm_X5_wouldMove D cA [.ref (ad 70), .int (nI i), .int lo, .int hi] (rlW cA ad g z) (nI mm) (rlW cA ad g2 z2) ∧ PI (z 0) (z 2) (fun g2 z2 => fnD g2 z2 i lo hi = true ∧ fnM g2 z2 i lo hi = mm) g2 z2 := by
  obtain ⟨g2, z2, c5, h1, h2, h3, h4, h5⟩ := sm_wouldMove (l := l) (D := D) (cA := cA) (ad := ad) hI hk hlo hhi
  exact ⟨g2, z2, q_CIr c5 (by rw [hd, hm]; rfl), h1, h2, h3, h4.trans hd, h5.trans hm⟩
theorem sm_wm_f (hI : inv g z) {i : Nat} {lo hi : Int32} (hk : i < z 0) (hlo : ¬ lo < nI 0 ∧ lo ≤ nI 999) (hhi : ¬ hi < lo ∧ hi ≤ nI 999) (hd : fnD g z i lo hi = false) : ∃ g2 z2, q_CI l yX5_wouldMove [Cond.code yX5_wouldMove cX5_wouldMove 4 (some .int)] rm_X5_wouldMove D cA [.ref (ad 70), .int (nI i), .int lo, .int hi] (rlW cA ad g z) (-1) (rlW cA ad g2 z2) ∧ PI (z 0) (z 2) (fun g2 z2 => fnD g2 z2 i lo hi = false ∧ True) g2 z2 := by
  obtain ⟨g2, z2, c5, h1, h2, h3, h4, h5⟩ := sm_wouldMove (l := l) (D := D) (cA := cA) (ad := ad) hI hk hlo hhi
  exact ⟨g2, z2, q_CIr c5 (by rw [hd]; rfl), h1, h2, h3, h4.trans hd, trivial⟩
end SX
set_option maxRecDepth 100000 in
set_option maxHeartbeats 4000000 in
theorem lp0_16 {p : Program} {l : Launch} {e : Env} {s : State} {m : MethodId} {below : List Frame} {meth : Method} {c : Code} {b0 : Nat} {D : va_G} {cA : ClassId} {ad : Nat → Nat} {k cells slots : Nat} {Q : State → Prop} {g : Nat → Nat → Int32} {z : Nat → Nat} (C : lcx p l s m c cL_law 15 D cA (lwA s)) (hroom : cells + 12 ≤ room_1.cells ∧ slots + 72 ≤ room_1.slots) (hI : inv g z) {x w y t : Nat} (hy : y < 2000000) (ht : t < 2000000) (h : ¬ z 0 < 16) (kk5 : LK p l e s m below meth c b0 D cA ad k (cells + 12) (slots + 72) Q 1305) : ∀ (H : Heap) (locs : List Loc) (ls : Array Slot), va_P D vwCl (rlW cA ad g z) H → va_D (lwA s) (rlW cA ad g z) → va_S (lwA s) s.heap H locs → lv_has ls 15 [(0, .ref (b0)), (1, .ref (ad 70)), (2, .int (nI (z 0))), (3, .int (nI (z 2))), (4, .int (nI k)), (5, .int (nI x)), (6, .int (nI w)), (7, .int (nI y)), (8, .int (nI t))] → W p l e room_1 s m #[.ref b0] below meth c H locs cells slots Q (F0 m 86 ls []) := by
  intro H locs ls hP hD hS hl
  have hz0 := hI.hz0
  have hz2 := hI.hz2
  have q1 : y % 3 < 3 := Nat.mod_lt _ (by omega)
  have q2 : t % 4 < 4 := Nat.mod_lt _ (by omega)
  have q3 : y / 3 % 6 < 6 := Nat.mod_lt _ (by omega)
  have q4 : t / 4 % 9 < 9 := Nat.mod_lt _ (by omega)
  have f1 := mfa q1
  have f2 := mfb q2
  have f3 := mfc q3
  have f4 := mfd q4
  refine lv_iload_n C.hx C.hb dL_law_86 rfl (lv_at hl 2 rfl) ?_
  refine lv_bipush (v := nI 16) C.hx C.hb dL_law_87 (by decide +kernel) ?_
  refine lv_icmp_ge (tgt := 102) C.hx C.hb dL_law_89 (by decide) (fun _ => ?_) (fun c9 => absurd c9 (by rw [nI_leI (by omega) (by omega)]; omega))
  refine lv_iconst (v := nI 0) C.hx C.hb dL_law_102 (by decide +kernel) ?_
  refine lv_istore (lv' := [(9, .int (nI 0)), (0, .ref (b0)), (1, .ref (ad 70)), (2, .int (nI (z 0))), (3, .int (nI (z 2))), (4, .int (nI k)), (5, .int (nI x)), (6, .int (nI w)), (7, .int (nI y)), (8, .int (nI t))]) C.hx C.hb dL_law_103 hl (by decide) rfl (fun ls hl => ?_)
  refine lv_aload_n C.hx C.hb dL_law_105 rfl (lv_at hl 2 rfl) ?_
  refine lv_iconst (v := nI 0) C.hx C.hb dL_law_106 (by decide +kernel) ?_
  refine lv_iload C.hx C.hb dL_law_107 (lv_at hl 8 rfl) ?_
  refine lv_iconst (v := nI 3) C.hx C.hb dL_law_109 (by decide +kernel) ?_
  refine lv_irem C.hx C.hb dL_law_110 (by decide +kernel) ?_
  refine q_top (y := nI (y % 3)) (pk_rem (by omega) (by omega) (by omega)) ?_
  refine lv_iload C.hx C.hb dL_law_111 (lv_at hl 9 rfl) ?_
  refine lv_iconst (v := nI 4) C.hx C.hb dL_law_113 (by decide +kernel) ?_
  refine lv_irem C.hx C.hb dL_law_114 (by decide +kernel) ?_
  refine q_top (y := nI (t % 4)) (pk_rem (by omega) (by omega) (by omega)) ?_
  refine lv_iconst (v := nI 1) C.hx C.hb dL_law_115 (by decide +kernel) ?_
  refine lv_isub C.hx C.hb dL_law_116 ?_
  refine lv_iload C.hx C.hb dL_law_117 (lv_at hl 8 rfl) ?_
  refine lv_iconst (v := nI 3) C.hx C.hb dL_law_119 (by decide +kernel) ?_
  refine lv_idiv C.hx C.hb dL_law_120 (by decide +kernel) ?_
  refine q_top (y := nI (y / 3)) (pk_div (by omega) (by omega) (by omega)) ?_
  refine lv_bipush (v := nI 6) C.hx C.hb dL_law_121 (by decide +kernel) ?_
  refine lv_irem C.hx C.hb dL_law_123 (by decide +kernel) ?_
  refine q_top (y := nI ((y / 3) % 6)) (pk_rem (by omega) (by omega) (by omega)) ?_
  refine lv_iload C.hx C.hb dL_law_124 (lv_at hl 9 rfl) ?_
  refine lv_iconst (v := nI 4) C.hx C.hb dL_law_126 (by decide +kernel) ?_
  refine lv_idiv C.hx C.hb dL_law_127 (by decide +kernel) ?_
  refine q_top (y := nI (t / 4)) (pk_div (by omega) (by omega) (by omega)) ?_
  refine lv_bipush (v := nI 9) C.hx C.hb dL_law_128 (by decide +kernel) ?_
  refine lv_irem C.hx C.hb dL_law_130 (by decide +kernel) ?_
  refine q_top (y := nI ((t / 4) % 9)) (pk_rem (by omega) (by omega) (by omega)) ?_
  refine lv_iconst (v := nI 1) C.hx C.hb dL_law_131 (by decide +kernel) ?_
  refine lv_isub C.hx C.hb dL_law_132 ?_
  refine q_cB (w := 0) (p0 := nI (y % 3)) (p1 := nI (t % 4) - nI 1) (p2 := nI ((y / 3) % 6)) (p3 := nI ((t / 4) % 9) - nI 1) (r := -7000003) (c2 := cells + 1) (s2 := slots + 6) C hP hD hS (sm_mentionx C.htr hI (nI (y % 3)) (nI (t % 4) - nI 1) (nI (y / 3 % 6)) (nI (t / 4 % 9) - nI 1) f4 f1 f2 f3 (by omega)) hl rfl (Nat.le_of_ble_eq_true rfl) ⟨Nat.le_of_ble_eq_true rfl, Nat.le_of_ble_eq_true rfl⟩ ⟨by omega, by omega⟩ ⟨by omega, by omega⟩ dL_law_133 (fun g2 z2 H locs hp hP hD hS => ?_)
  have hs2 := hp
  refine lv_iload C.hx C.hb dL_law_136 (lv_at hl 0 rfl) ?_
  refine lv_if_eq (tgt := 145) C.hx C.hb dL_law_138 (by decide) (fun _ => ?_) (fun c9 => absurd c9 (by decide +kernel))
  refine lv_ldc (v := -7000003) C.hx C.hb C.hown (C.hT.use kk_L_96 _) dL_law_145 ?_
  refine lv_icmp_eq (tgt := 152) C.hx C.hb dL_law_147 (by decide) (fun _ => ?_) (fun c9 => absurd c9 (by decide +kernel))
  refine lv_iload C.hx C.hb dL_law_152 (lv_at hl 0 rfl) ?_
  refine lv_if_eq (tgt := 168) C.hx C.hb dL_law_154 (by decide) (fun _ => ?_) (fun c9 => absurd c9 (by decide +kernel))
  refine lv_iload_n C.hx C.hb dL_law_168 rfl (lv_at hl 3 rfl) ?_
  refine lv_iload C.hx C.hb dL_law_169 (lv_at hl 0 rfl) ?_
  refine lv_if_eq (tgt := 178) C.hx C.hb dL_law_171 (by decide) (fun _ => ?_) (fun c9 => absurd c9 (by decide +kernel))
  refine lv_iconst (v := nI 0) C.hx C.hb dL_law_178 (by decide +kernel) ?_
  refine lv_iadd C.hx C.hb dL_law_179 ?_
  refine q_top (y := nI ((z 0) + 0)) (nI_add _ _) ?_
  refine lv_istore_n (lv' := [(2, .int (nI ((z 0) + 0))), (9, .int (nI 0)), (0, .ref (b0)), (1, .ref (ad 70)), (3, .int (nI (z 2))), (4, .int (nI k)), (5, .int (nI x)), (6, .int (nI w)), (7, .int (nI y)), (8, .int (nI t))]) C.hx C.hb dL_law_180 rfl hl (by decide) rfl (fun ls hl => ?_)
  refine lv_iload_n C.hx C.hb dL_law_181 rfl (lv_at hl 4 rfl) ?_
  refine lv_iload C.hx C.hb dL_law_182 (lv_at hl 1 rfl) ?_
  refine lv_if_eq (tgt := 191) C.hx C.hb dL_law_184 (by decide) (fun _ => ?_) (fun c9 => absurd c9 (by decide +kernel))
  refine lv_iconst (v := nI 0) C.hx C.hb dL_law_191 (by decide +kernel) ?_
  refine lv_iadd C.hx C.hb dL_law_192 ?_
  refine q_top (y := nI ((z 2) + 0)) (nI_add _ _) ?_
  refine lv_istore_n (lv' := [(3, .int (nI ((z 2) + 0))), (2, .int (nI ((z 0) + 0))), (9, .int (nI 0)), (0, .ref (b0)), (1, .ref (ad 70)), (4, .int (nI k)), (5, .int (nI x)), (6, .int (nI w)), (7, .int (nI y)), (8, .int (nI t))]) C.hx C.hb dL_law_193 rfl hl (by decide) rfl (fun ls hl => ?_)
  refine lv_goto (tgt := 1305) C.hx C.hb dL_law_194 (by decide) ?_
  refine W.widen (k := cells + 12) (n := slots + 72) (by omega) (by omega) ?_
  exact kk5 g2 z2 H locs ls ((z 0) + 0) ((z 2) + 0) hs2.2.2.2.2 hs2.2.1 hs2.2.2.2.1  hP hD hS (lv_sub hl [3, 4, 1, 0, 5] rfl)

set_option maxRecDepth 100000 in
set_option maxHeartbeats 4000000 in
theorem lp0_40 {p : Program} {l : Launch} {e : Env} {s : State} {m : MethodId} {below : List Frame} {meth : Method} {c : Code} {b0 : Nat} {D : va_G} {cA : ClassId} {ad : Nat → Nat} {k cells slots : Nat} {Q : State → Prop} {g : Nat → Nat → Int32} {z : Nat → Nat} (C : lcx p l s m c cL_law 15 D cA (lwA s)) (hroom : cells + 12 ≤ room_1.cells ∧ slots + 72 ≤ room_1.slots) (hI : inv g z) {x w y t : Nat} (hy : y < 2000000) (ht : t < 2000000) (h1 : z 0 < 16) (h : ¬ z 2 < 40) (kk5 : LK p l e s m below meth c b0 D cA ad k (cells + 12) (slots + 72) Q 1305) : ∀ (H : Heap) (locs : List Loc) (ls : Array Slot), va_P D vwCl (rlW cA ad g z) H → va_D (lwA s) (rlW cA ad g z) → va_S (lwA s) s.heap H locs → lv_has ls 15 [(0, .ref (b0)), (1, .ref (ad 70)), (2, .int (nI (z 0))), (3, .int (nI (z 2))), (4, .int (nI k)), (5, .int (nI x)), (6, .int (nI w)), (7, .int (nI y)), (8, .int (nI t))] → W p l e room_1 s m #[.ref b0] below meth c H locs cells slots Q (F0 m 86 ls []) := by
  intro H locs ls hP hD hS hl
  have hz0 := hI.hz0
  have hz2 := hI.hz2
  have q1 : y % 3 < 3 := Nat.mod_lt _ (by omega)
  have q2 : t % 4 < 4 := Nat.mod_lt _ (by omega)
  have q3 : y / 3 % 6 < 6 := Nat.mod_lt _ (by omega)
  have q4 : t / 4 % 9 < 9 := Nat.mod_lt _ (by omega)
  have f1 := mfa q1
  have f2 := mfb q2
  have f3 := mfc q3
  have f4 := mfd q4
  refine lv_iload_n C.hx C.hb dL_law_86 rfl (lv_at hl 2 rfl) ?_
  refine lv_bipush (v := nI 16) C.hx C.hb dL_law_87 (by decide +kernel) ?_
  refine lv_icmp_ge (tgt := 102) C.hx C.hb dL_law_89 (by decide) (fun c9 => absurd c9 (by rw [nI_leI (by omega) (by omega)]; omega)) (fun _ => ?_)
  refine lv_iload_n C.hx C.hb dL_law_92 rfl (lv_at hl 3 rfl) ?_
  refine lv_bipush (v := nI 40) C.hx C.hb dL_law_93 (by decide +kernel) ?_
  refine lv_icmp_ge (tgt := 102) C.hx C.hb dL_law_95 (by decide) (fun _ => ?_) (fun c9 => absurd c9 (by rw [nI_leI (by omega) (by omega)]; omega))
  refine lv_iconst (v := nI 0) C.hx C.hb dL_law_102 (by decide +kernel) ?_
  refine lv_istore (lv' := [(9, .int (nI 0)), (0, .ref (b0)), (1, .ref (ad 70)), (2, .int (nI (z 0))), (3, .int (nI (z 2))), (4, .int (nI k)), (5, .int (nI x)), (6, .int (nI w)), (7, .int (nI y)), (8, .int (nI t))]) C.hx C.hb dL_law_103 hl (by decide) rfl (fun ls hl => ?_)
  refine lv_aload_n C.hx C.hb dL_law_105 rfl (lv_at hl 2 rfl) ?_
  refine lv_iconst (v := nI 0) C.hx C.hb dL_law_106 (by decide +kernel) ?_
  refine lv_iload C.hx C.hb dL_law_107 (lv_at hl 8 rfl) ?_
  refine lv_iconst (v := nI 3) C.hx C.hb dL_law_109 (by decide +kernel) ?_
  refine lv_irem C.hx C.hb dL_law_110 (by decide +kernel) ?_
  refine q_top (y := nI (y % 3)) (pk_rem (by omega) (by omega) (by omega)) ?_
  refine lv_iload C.hx C.hb dL_law_111 (lv_at hl 9 rfl) ?_
  refine lv_iconst (v := nI 4) C.hx C.hb dL_law_113 (by decide +kernel) ?_
  refine lv_irem C.hx C.hb dL_law_114 (by decide +kernel) ?_
  refine q_top (y := nI (t % 4)) (pk_rem (by omega) (by omega) (by omega)) ?_
  refine lv_iconst (v := nI 1) C.hx C.hb dL_law_115 (by decide +kernel) ?_
  refine lv_isub C.hx C.hb dL_law_116 ?_
  refine lv_iload C.hx C.hb dL_law_117 (lv_at hl 8 rfl) ?_
  refine lv_iconst (v := nI 3) C.hx C.hb dL_law_119 (by decide +kernel) ?_
  refine lv_idiv C.hx C.hb dL_law_120 (by decide +kernel) ?_
  refine q_top (y := nI (y / 3)) (pk_div (by omega) (by omega) (by omega)) ?_
  refine lv_bipush (v := nI 6) C.hx C.hb dL_law_121 (by decide +kernel) ?_
  refine lv_irem C.hx C.hb dL_law_123 (by decide +kernel) ?_
  refine q_top (y := nI ((y / 3) % 6)) (pk_rem (by omega) (by omega) (by omega)) ?_
  refine lv_iload C.hx C.hb dL_law_124 (lv_at hl 9 rfl) ?_
  refine lv_iconst (v := nI 4) C.hx C.hb dL_law_126 (by decide +kernel) ?_
  refine lv_idiv C.hx C.hb dL_law_127 (by decide +kernel) ?_
  refine q_top (y := nI (t / 4)) (pk_div (by omega) (by omega) (by omega)) ?_
  refine lv_bipush (v := nI 9) C.hx C.hb dL_law_128 (by decide +kernel) ?_
  refine lv_irem C.hx C.hb dL_law_130 (by decide +kernel) ?_
  refine q_top (y := nI ((t / 4) % 9)) (pk_rem (by omega) (by omega) (by omega)) ?_
  refine lv_iconst (v := nI 1) C.hx C.hb dL_law_131 (by decide +kernel) ?_
  refine lv_isub C.hx C.hb dL_law_132 ?_
  refine q_cB (w := 0) (p0 := nI (y % 3)) (p1 := nI (t % 4) - nI 1) (p2 := nI ((y / 3) % 6)) (p3 := nI ((t / 4) % 9) - nI 1) (r := -7000003) (c2 := cells + 1) (s2 := slots + 6) C hP hD hS (sm_mentionx C.htr hI (nI (y % 3)) (nI (t % 4) - nI 1) (nI (y / 3 % 6)) (nI (t / 4 % 9) - nI 1) f4 f1 f2 f3 (by omega)) hl rfl (Nat.le_of_ble_eq_true rfl) ⟨Nat.le_of_ble_eq_true rfl, Nat.le_of_ble_eq_true rfl⟩ ⟨by omega, by omega⟩ ⟨by omega, by omega⟩ dL_law_133 (fun g2 z2 H locs hp hP hD hS => ?_)
  have hs2 := hp
  refine lv_iload C.hx C.hb dL_law_136 (lv_at hl 0 rfl) ?_
  refine lv_if_eq (tgt := 145) C.hx C.hb dL_law_138 (by decide) (fun _ => ?_) (fun c9 => absurd c9 (by decide +kernel))
  refine lv_ldc (v := -7000003) C.hx C.hb C.hown (C.hT.use kk_L_96 _) dL_law_145 ?_
  refine lv_icmp_eq (tgt := 152) C.hx C.hb dL_law_147 (by decide) (fun _ => ?_) (fun c9 => absurd c9 (by decide +kernel))
  refine lv_iload C.hx C.hb dL_law_152 (lv_at hl 0 rfl) ?_
  refine lv_if_eq (tgt := 168) C.hx C.hb dL_law_154 (by decide) (fun _ => ?_) (fun c9 => absurd c9 (by decide +kernel))
  refine lv_iload_n C.hx C.hb dL_law_168 rfl (lv_at hl 3 rfl) ?_
  refine lv_iload C.hx C.hb dL_law_169 (lv_at hl 0 rfl) ?_
  refine lv_if_eq (tgt := 178) C.hx C.hb dL_law_171 (by decide) (fun _ => ?_) (fun c9 => absurd c9 (by decide +kernel))
  refine lv_iconst (v := nI 0) C.hx C.hb dL_law_178 (by decide +kernel) ?_
  refine lv_iadd C.hx C.hb dL_law_179 ?_
  refine q_top (y := nI ((z 0) + 0)) (nI_add _ _) ?_
  refine lv_istore_n (lv' := [(2, .int (nI ((z 0) + 0))), (9, .int (nI 0)), (0, .ref (b0)), (1, .ref (ad 70)), (3, .int (nI (z 2))), (4, .int (nI k)), (5, .int (nI x)), (6, .int (nI w)), (7, .int (nI y)), (8, .int (nI t))]) C.hx C.hb dL_law_180 rfl hl (by decide) rfl (fun ls hl => ?_)
  refine lv_iload_n C.hx C.hb dL_law_181 rfl (lv_at hl 4 rfl) ?_
  refine lv_iload C.hx C.hb dL_law_182 (lv_at hl 1 rfl) ?_
  refine lv_if_eq (tgt := 191) C.hx C.hb dL_law_184 (by decide) (fun _ => ?_) (fun c9 => absurd c9 (by decide +kernel))
  refine lv_iconst (v := nI 0) C.hx C.hb dL_law_191 (by decide +kernel) ?_
  refine lv_iadd C.hx C.hb dL_law_192 ?_
  refine q_top (y := nI ((z 2) + 0)) (nI_add _ _) ?_
  refine lv_istore_n (lv' := [(3, .int (nI ((z 2) + 0))), (2, .int (nI ((z 0) + 0))), (9, .int (nI 0)), (0, .ref (b0)), (1, .ref (ad 70)), (4, .int (nI k)), (5, .int (nI x)), (6, .int (nI w)), (7, .int (nI y)), (8, .int (nI t))]) C.hx C.hb dL_law_193 rfl hl (by decide) rfl (fun ls hl => ?_)
  refine lv_goto (tgt := 1305) C.hx C.hb dL_law_194 (by decide) ?_
  refine W.widen (k := cells + 12) (n := slots + 72) (by omega) (by omega) ?_
  exact kk5 g2 z2 H locs ls ((z 0) + 0) ((z 2) + 0) hs2.2.2.2.2 hs2.2.1 hs2.2.2.2.1  hP hD hS (lv_sub hl [3, 4, 1, 0, 5] rfl)

set_option maxRecDepth 100000 in
set_option maxHeartbeats 4000000 in
theorem lp0_ok {p : Program} {l : Launch} {e : Env} {s : State} {m : MethodId} {below : List Frame} {meth : Method} {c : Code} {b0 : Nat} {D : va_G} {cA : ClassId} {ad : Nat → Nat} {k cells slots : Nat} {Q : State → Prop} {g : Nat → Nat → Int32} {z : Nat → Nat} (C : lcx p l s m c cL_law 15 D cA (lwA s)) (hroom : cells + 12 ≤ room_1.cells ∧ slots + 72 ≤ room_1.slots) (hI : inv g z) {x w y t : Nat} (hy : y < 2000000) (ht : t < 2000000) (h1 : z 0 < 16) (h2 : z 2 < 40) (kk5 : LK p l e s m below meth c b0 D cA ad k (cells + 12) (slots + 72) Q 1305) : ∀ (H : Heap) (locs : List Loc) (ls : Array Slot), va_P D vwCl (rlW cA ad g z) H → va_D (lwA s) (rlW cA ad g z) → va_S (lwA s) s.heap H locs → lv_has ls 15 [(0, .ref (b0)), (1, .ref (ad 70)), (2, .int (nI (z 0))), (3, .int (nI (z 2))), (4, .int (nI k)), (5, .int (nI x)), (6, .int (nI w)), (7, .int (nI y)), (8, .int (nI t))] → W p l e room_1 s m #[.ref b0] below meth c H locs cells slots Q (F0 m 86 ls []) := by
  intro H locs ls hP hD hS hl
  have hz0 := hI.hz0
  have hz2 := hI.hz2
  have q1 : y % 3 < 3 := Nat.mod_lt _ (by omega)
  have q2 : t % 4 < 4 := Nat.mod_lt _ (by omega)
  have q3 : y / 3 % 6 < 6 := Nat.mod_lt _ (by omega)
  have q4 : t / 4 % 9 < 9 := Nat.mod_lt _ (by omega)
  have f1 := mfa q1
  have f2 := mfb q2
  have f3 := mfc q3
  have f4 := mfd q4
  refine lv_iload_n C.hx C.hb dL_law_86 rfl (lv_at hl 2 rfl) ?_
  refine lv_bipush (v := nI 16) C.hx C.hb dL_law_87 (by decide +kernel) ?_
  refine lv_icmp_ge (tgt := 102) C.hx C.hb dL_law_89 (by decide) (fun c9 => absurd c9 (by rw [nI_leI (by omega) (by omega)]; omega)) (fun _ => ?_)
  refine lv_iload_n C.hx C.hb dL_law_92 rfl (lv_at hl 3 rfl) ?_
  refine lv_bipush (v := nI 40) C.hx C.hb dL_law_93 (by decide +kernel) ?_
  refine lv_icmp_ge (tgt := 102) C.hx C.hb dL_law_95 (by decide) (fun c9 => absurd c9 (by rw [nI_leI (by omega) (by omega)]; omega)) (fun _ => ?_)
  refine lv_iconst (v := nI 1) C.hx C.hb dL_law_98 (by decide +kernel) ?_
  refine lv_goto (tgt := 103) C.hx C.hb dL_law_99 (by decide) ?_
  refine lv_istore (lv' := [(9, .int (nI 1)), (0, .ref (b0)), (1, .ref (ad 70)), (2, .int (nI (z 0))), (3, .int (nI (z 2))), (4, .int (nI k)), (5, .int (nI x)), (6, .int (nI w)), (7, .int (nI y)), (8, .int (nI t))]) C.hx C.hb dL_law_103 hl (by decide) rfl (fun ls hl => ?_)
  refine lv_aload_n C.hx C.hb dL_law_105 rfl (lv_at hl 2 rfl) ?_
  refine lv_iconst (v := nI 0) C.hx C.hb dL_law_106 (by decide +kernel) ?_
  refine lv_iload C.hx C.hb dL_law_107 (lv_at hl 8 rfl) ?_
  refine lv_iconst (v := nI 3) C.hx C.hb dL_law_109 (by decide +kernel) ?_
  refine lv_irem C.hx C.hb dL_law_110 (by decide +kernel) ?_
  refine q_top (y := nI (y % 3)) (pk_rem (by omega) (by omega) (by omega)) ?_
  refine lv_iload C.hx C.hb dL_law_111 (lv_at hl 9 rfl) ?_
  refine lv_iconst (v := nI 4) C.hx C.hb dL_law_113 (by decide +kernel) ?_
  refine lv_irem C.hx C.hb dL_law_114 (by decide +kernel) ?_
  refine q_top (y := nI (t % 4)) (pk_rem (by omega) (by omega) (by omega)) ?_
  refine lv_iconst (v := nI 1) C.hx C.hb dL_law_115 (by decide +kernel) ?_
  refine lv_isub C.hx C.hb dL_law_116 ?_
  refine lv_iload C.hx C.hb dL_law_117 (lv_at hl 8 rfl) ?_
  refine lv_iconst (v := nI 3) C.hx C.hb dL_law_119 (by decide +kernel) ?_
  refine lv_idiv C.hx C.hb dL_law_120 (by decide +kernel) ?_
  refine q_top (y := nI (y / 3)) (pk_div (by omega) (by omega) (by omega)) ?_
  refine lv_bipush (v := nI 6) C.hx C.hb dL_law_121 (by decide +kernel) ?_
  refine lv_irem C.hx C.hb dL_law_123 (by decide +kernel) ?_
  refine q_top (y := nI ((y / 3) % 6)) (pk_rem (by omega) (by omega) (by omega)) ?_
  refine lv_iload C.hx C.hb dL_law_124 (lv_at hl 9 rfl) ?_
  refine lv_iconst (v := nI 4) C.hx C.hb dL_law_126 (by decide +kernel) ?_
  refine lv_idiv C.hx C.hb dL_law_127 (by decide +kernel) ?_
  refine q_top (y := nI (t / 4)) (pk_div (by omega) (by omega) (by omega)) ?_
  refine lv_bipush (v := nI 9) C.hx C.hb dL_law_128 (by decide +kernel) ?_
  refine lv_irem C.hx C.hb dL_law_130 (by decide +kernel) ?_
  refine q_top (y := nI ((t / 4) % 9)) (pk_rem (by omega) (by omega) (by omega)) ?_
  refine lv_iconst (v := nI 1) C.hx C.hb dL_law_131 (by decide +kernel) ?_
  refine lv_isub C.hx C.hb dL_law_132 ?_
  refine q_cB (w := 0) (p0 := nI (y % 3)) (p1 := nI (t % 4) - nI 1) (p2 := nI ((y / 3) % 6)) (p3 := nI ((t / 4) % 9) - nI 1) (r := nI (z 0)) (c2 := cells + 1) (s2 := slots + 6) C hP hD hS (sm_mention hI (nI (y % 3)) (nI (t % 4) - nI 1) (nI (y / 3 % 6)) (nI (t / 4 % 9) - nI 1) f4 f1 f2 f3 h1 h2) hl rfl (Nat.le_of_ble_eq_true rfl) ⟨Nat.le_of_ble_eq_true rfl, Nat.le_of_ble_eq_true rfl⟩ ⟨by omega, by omega⟩ ⟨by omega, by omega⟩ dL_law_133 (fun g2 z2 H locs hp hP hD hS => ?_)
  obtain ⟨hI2, e02, e22, f9⟩ := hp
  have f9 : q_n (g2 22 (z 0)) = z 2 := f9
  have hs2 : SR g2 (z 0 + 1) (z2 1) (z 2 + 1) g2 z2 := by have q := SRrf hI2; rw [e02, e22] at q; exact q
  refine lv_iload C.hx C.hb dL_law_136 (lv_at hl 0 rfl) ?_
  refine lv_if_eq (tgt := 145) C.hx C.hb dL_law_138 (by decide) (fun c9 => absurd c9 (by decide +kernel)) (fun _ => ?_)
  refine lv_iload_n C.hx C.hb dL_law_141 rfl (lv_at hl 3 rfl) ?_
  refine lv_goto (tgt := 147) C.hx C.hb dL_law_142 (by decide) ?_
  refine lv_icmp_eq (tgt := 152) C.hx C.hb dL_law_147 (by decide) (fun _ => ?_) (fun c9 => absurd rfl c9)
  refine lv_iload C.hx C.hb dL_law_152 (lv_at hl 0 rfl) ?_
  refine lv_if_eq (tgt := 168) C.hx C.hb dL_law_154 (by decide) (fun c9 => absurd c9 (by decide +kernel)) (fun _ => ?_)
  refine lv_aload_n C.hx C.hb dL_law_157 rfl (lv_at hl 2 rfl) ?_
  refine lv_iload_n C.hx C.hb dL_law_158 rfl (lv_at hl 3 rfl) ?_
  refine q_cQ (r := nI (q_n (g2 22 (z 0)))) (As := [.int (nI (z 0))]) C hP hD hS (sq_person hs2 (Nat.lt_succ_self _)) k_X5_person kl_L_58 rfl hl rfl rfl (Nat.le_of_ble_eq_true rfl) ⟨⟨rfl, rfl⟩, Nat.le_of_ble_eq_true rfl, Nat.le_of_ble_eq_true rfl⟩ ⟨by omega, by omega⟩ dL_law_159 (fun g3 z3 H locs hp hP hD hS => ?_)
  have hs3 := hp
  refine lv_iload_n C.hx C.hb dL_law_162 rfl (lv_at hl 4 rfl) ?_
  refine lv_icmp_eq (tgt := 168) C.hx C.hb dL_law_163 (by decide) (fun _ => ?_) (fun c9 => absurd c9 (by rw [nI_eq (by omega) (by omega)]; omega))
  refine lv_iload_n C.hx C.hb dL_law_168 rfl (lv_at hl 3 rfl) ?_
  refine lv_iload C.hx C.hb dL_law_169 (lv_at hl 0 rfl) ?_
  refine lv_if_eq (tgt := 178) C.hx C.hb dL_law_171 (by decide) (fun c9 => absurd c9 (by decide +kernel)) (fun _ => ?_)
  refine lv_iconst (v := nI 1) C.hx C.hb dL_law_174 (by decide +kernel) ?_
  refine lv_goto (tgt := 179) C.hx C.hb dL_law_175 (by decide) ?_
  refine lv_iadd C.hx C.hb dL_law_179 ?_
  refine q_top (y := nI ((z 0) + 1)) (nI_add _ _) ?_
  refine lv_istore_n (lv' := [(2, .int (nI ((z 0) + 1))), (9, .int (nI 1)), (0, .ref (b0)), (1, .ref (ad 70)), (3, .int (nI (z 2))), (4, .int (nI k)), (5, .int (nI x)), (6, .int (nI w)), (7, .int (nI y)), (8, .int (nI t))]) C.hx C.hb dL_law_180 rfl hl (by decide) rfl (fun ls hl => ?_)
  refine lv_iload_n C.hx C.hb dL_law_181 rfl (lv_at hl 4 rfl) ?_
  refine lv_iload C.hx C.hb dL_law_182 (lv_at hl 1 rfl) ?_
  refine lv_if_eq (tgt := 191) C.hx C.hb dL_law_184 (by decide) (fun c9 => absurd c9 (by decide +kernel)) (fun _ => ?_)
  refine lv_iconst (v := nI 1) C.hx C.hb dL_law_187 (by decide +kernel) ?_
  refine lv_goto (tgt := 192) C.hx C.hb dL_law_188 (by decide) ?_
  refine lv_iadd C.hx C.hb dL_law_192 ?_
  refine q_top (y := nI ((z 2) + 1)) (nI_add _ _) ?_
  refine lv_istore_n (lv' := [(3, .int (nI ((z 2) + 1))), (2, .int (nI ((z 0) + 1))), (9, .int (nI 1)), (0, .ref (b0)), (1, .ref (ad 70)), (4, .int (nI k)), (5, .int (nI x)), (6, .int (nI w)), (7, .int (nI y)), (8, .int (nI t))]) C.hx C.hb dL_law_193 rfl hl (by decide) rfl (fun ls hl => ?_)
  refine lv_goto (tgt := 1305) C.hx C.hb dL_law_194 (by decide) ?_
  refine W.widen (k := cells + 12) (n := slots + 72) (by omega) (by omega) ?_
  exact kk5 g3 z3 H locs ls ((z 0) + 1) ((z 2) + 1) hs3.2.2.2.2 hs3.2.1 hs3.2.2.2.1  hP hD hS (lv_sub hl [3, 4, 1, 0, 5] rfl)

set_option maxRecDepth 100000 in
set_option maxHeartbeats 4000000 in
theorem lp2_same {p : Program} {l : Launch} {e : Env} {s : State} {m : MethodId} {below : List Frame} {meth : Method} {c : Code} {b0 : Nat} {D : va_G} {cA : ClassId} {ad : Nat → Nat} {k cells slots : Nat} {Q : State → Prop} {g : Nat → Nat → Int32} {z : Nat → Nat} (C : lcx p l s m c cL_law 15 D cA (lwA s)) (hroom : cells + 12 ≤ room_1.cells ∧ slots + 72 ≤ room_1.slots) (hI : inv g z) {x w y t i : Nat} (hy : y < 2000000) (ht : t < 2000000) (hi : i < z 0) (kk : LK p l e s m below meth c b0 D cA ad k (cells + 12) (slots + 72) Q 1286) : ∀ (H : Heap) (locs : List Loc) (ls : Array Slot), va_P D vwCl (rlW cA ad g z) H → va_D (lwA s) (rlW cA ad g z) → va_S (lwA s) s.heap H locs → lv_has ls 15 [(0, .ref (b0)), (1, .ref (ad 70)), (2, .int (nI (z 0))), (3, .int (nI (z 2))), (4, .int (nI k)), (5, .int (nI x)), (6, .int (nI w)), (7, .int (nI y)), (8, .int (nI t)), (9, .int (nI i)), (10, .int (nI i))] → W p l e room_1 s m #[.ref b0] below meth c H locs cells slots Q (F0 m 215 ls []) := by
  intro H locs ls hP hD hS hl
  have hz0 := hI.hz0
  have hz2 := hI.hz2
  have hs := SRrf hI
  have q1 : y / 7 % 101 < 101 := Nat.mod_lt _ (by omega)
  have hw := gapR q1
  refine lv_aload_n C.hx C.hb dL_law_215 rfl (lv_at hl 1 rfl) ?_
  refine lv_iload C.hx C.hb dL_law_216 (lv_at hl 10 rfl) ?_
  refine lv_iconst (v := nI 0) C.hx C.hb dL_law_218 (by decide +kernel) ?_
  refine q_cE (r := g 17 i) (As := [.int (nI i), .int (q_b false)]) C hP hD hS (c_X5_year l D cA ad g z i false hi hI.hz0) k_X5_year kl_L_31 rfl hl rfl rfl (Nat.le_of_ble_eq_true rfl) ⟨⟨rfl, rfl⟩, Nat.le_of_ble_eq_true rfl, Nat.le_of_ble_eq_true rfl⟩ ⟨by omega, by omega⟩ dL_law_219 (fun H locs hP hD hS => ?_)
  refine lv_istore (lv' := [(11, .int (g 17 i)), (0, .ref (b0)), (1, .ref (ad 70)), (2, .int (nI (z 0))), (3, .int (nI (z 2))), (4, .int (nI k)), (5, .int (nI x)), (6, .int (nI w)), (7, .int (nI y)), (8, .int (nI t)), (9, .int (nI i)), (10, .int (nI i))]) C.hx C.hb dL_law_222 hl (by decide) rfl (fun ls hl => ?_)
  refine lv_aload_n C.hx C.hb dL_law_224 rfl (lv_at hl 2 rfl) ?_
  refine lv_iconst (v := nI 3) C.hx C.hb dL_law_225 (by decide +kernel) ?_
  refine lv_iload C.hx C.hb dL_law_226 (lv_at hl 10 rfl) ?_
  refine lv_iload C.hx C.hb dL_law_228 (lv_at hl 11 rfl) ?_
  refine lv_iload C.hx C.hb dL_law_230 (lv_at hl 8 rfl) ?_
  refine lv_bipush (v := nI 7) C.hx C.hb dL_law_232 (by decide +kernel) ?_
  refine lv_idiv C.hx C.hb dL_law_234 (by decide +kernel) ?_
  refine q_top (y := nI (y / 7)) (pk_div (by omega) (by omega) (by omega)) ?_
  refine lv_bipush (v := nI 101) C.hx C.hb dL_law_235 (by decide +kernel) ?_
  refine lv_irem C.hx C.hb dL_law_237 (by decide +kernel) ?_
  refine q_top (y := nI ((y / 7) % 101)) (pk_rem (by omega) (by omega) (by omega)) ?_
  refine lv_bipush (v := nI 50) C.hx C.hb dL_law_238 (by decide +kernel) ?_
  refine lv_isub C.hx C.hb dL_law_240 ?_
  refine lv_iconst (v := nI 0) C.hx C.hb dL_law_241 (by decide +kernel) ?_
  refine q_cB (w := 3) (p0 := nI i) (p1 := nI i) (p2 := nI ((y / 7) % 101) - nI 50) (p3 := nI 0) (r := -7000002) (c2 := cells + 1) (s2 := slots + 6) C hP hD hS (rs_ahead C.htr (q_r_nI hi) g z hs) hl rfl (Nat.le_of_ble_eq_true rfl) ⟨Nat.le_of_ble_eq_true rfl, Nat.le_of_ble_eq_true rfl⟩ ⟨by omega, by omega⟩ ⟨by omega, by omega⟩ dL_law_242 (fun g2 z2 H locs hp hP hD hS => ?_)
  have hs2 := hp
  refine lv_istore (lv' := [(12, .int (-7000002)), (11, .int (g 17 i)), (0, .ref (b0)), (1, .ref (ad 70)), (2, .int (nI (z 0))), (3, .int (nI (z 2))), (4, .int (nI k)), (5, .int (nI x)), (6, .int (nI w)), (7, .int (nI y)), (8, .int (nI t)), (9, .int (nI i)), (10, .int (nI i))]) C.hx C.hb dL_law_245 hl (by decide) rfl (fun ls hl => ?_)
  refine lv_iload C.hx C.hb dL_law_247 (lv_at hl 0 rfl) ?_
  refine lv_ldc (v := -7000002) C.hx C.hb C.hown (C.hT.use kk_L_93 _) dL_law_249 ?_
  refine lv_icmp_ne (tgt := 258) C.hx C.hb dL_law_251 (by decide) (fun c9 => absurd c9 (by decide +kernel)) (fun _ => ?_)
  refine lv_iconst (v := nI 1) C.hx C.hb dL_law_254 (by decide +kernel) ?_
  refine lv_goto (tgt := 259) C.hx C.hb dL_law_255 (by decide) ?_
  refine lv_iload C.hx C.hb dL_law_259 (lv_at hl 11 rfl) ?_
  refine lv_iload C.hx C.hb dL_law_261 (lv_at hl 12 rfl) ?_
  refine lv_icmp_ne (tgt := 270) C.hx C.hb dL_law_263 (by decide) (fun c9 => absurd rfl c9) (fun _ => ?_)
  refine lv_iconst (v := nI 1) C.hx C.hb dL_law_266 (by decide +kernel) ?_
  refine lv_goto (tgt := 271) C.hx C.hb dL_law_267 (by decide) ?_
  refine lv_icmp_ne (tgt := 326) C.hx C.hb dL_law_271 (by decide) (fun c9 => absurd c9 (by decide +kernel)) (fun _ => ?_)
  refine lv_iload C.hx C.hb dL_law_274 (lv_at hl 0 rfl) ?_
  refine lv_iload_n C.hx C.hb dL_law_276 rfl (lv_at hl 4 rfl) ?_
  refine lv_icmp_gt (tgt := 326) C.hx C.hb dL_law_277 (by decide) (fun c9 => absurd c9 (nneg gI2 (by omega))) (fun _ => ?_)
  refine lv_iload C.hx C.hb dL_law_280 (lv_at hl 0 rfl) ?_
  refine lv_if_lt (tgt := 328) C.hx C.hb dL_law_282 (by decide) (fun _ => ?_) (fun c9 => absurd c9 (by decide +kernel))
  refine lv_goto (tgt := 1286) C.hx C.hb dL_law_328 (by decide) ?_
  refine W.widen (k := cells + 12) (n := slots + 72) (by omega) (by omega) ?_
  exact kk g2 z2 H locs ls (z 0) (z 2) hs2.2.2.2.2 hs2.2.1 hs2.2.2.2.1  hP hD hS (lv_sub hl [2, 3, 4, 5, 6] rfl)

set_option maxRecDepth 100000 in
set_option maxHeartbeats 4000000 in
theorem lp2_no {p : Program} {l : Launch} {e : Env} {s : State} {m : MethodId} {below : List Frame} {meth : Method} {c : Code} {b0 : Nat} {D : va_G} {cA : ClassId} {ad : Nat → Nat} {k cells slots : Nat} {Q : State → Prop} {g : Nat → Nat → Int32} {z : Nat → Nat} (C : lcx p l s m c cL_law 15 D cA (lwA s)) (hroom : cells + 12 ≤ room_1.cells ∧ slots + 72 ≤ room_1.slots) (hI : inv g z) {x w y t i j : Nat} (hy : y < 2000000) (ht : t < 2000000) (hi : i < z 0) (hj : j < z 0) (hij : ¬ i = j) (h : ¬ (z 1 < 40 ∧ ahD g z i j (nI (y / 7 % 101) - nI 50) = true)) (kk : LK p l e s m below meth c b0 D cA ad k (cells + 12) (slots + 72) Q 1286) : ∀ (H : Heap) (locs : List Loc) (ls : Array Slot), va_P D vwCl (rlW cA ad g z) H → va_D (lwA s) (rlW cA ad g z) → va_S (lwA s) s.heap H locs → lv_has ls 15 [(0, .ref (b0)), (1, .ref (ad 70)), (2, .int (nI (z 0))), (3, .int (nI (z 2))), (4, .int (nI k)), (5, .int (nI x)), (6, .int (nI w)), (7, .int (nI y)), (8, .int (nI t)), (9, .int (nI i)), (10, .int (nI j))] → W p l e room_1 s m #[.ref b0] below meth c H locs cells slots Q (F0 m 215 ls []) := by
  intro H locs ls hP hD hS hl
  have hz0 := hI.hz0
  have hz2 := hI.hz2
  have hs := SRrf hI
  have q1 : y / 7 % 101 < 101 := Nat.mod_lt _ (by omega)
  have hw := gapR q1
  refine lv_aload_n C.hx C.hb dL_law_215 rfl (lv_at hl 1 rfl) ?_
  refine lv_iload C.hx C.hb dL_law_216 (lv_at hl 10 rfl) ?_
  refine lv_iconst (v := nI 0) C.hx C.hb dL_law_218 (by decide +kernel) ?_
  refine q_cE (r := g 17 j) (As := [.int (nI j), .int (q_b false)]) C hP hD hS (c_X5_year l D cA ad g z j false hj hI.hz0) k_X5_year kl_L_31 rfl hl rfl rfl (Nat.le_of_ble_eq_true rfl) ⟨⟨rfl, rfl⟩, Nat.le_of_ble_eq_true rfl, Nat.le_of_ble_eq_true rfl⟩ ⟨by omega, by omega⟩ dL_law_219 (fun H locs hP hD hS => ?_)
  refine lv_istore (lv' := [(11, .int (g 17 j)), (0, .ref (b0)), (1, .ref (ad 70)), (2, .int (nI (z 0))), (3, .int (nI (z 2))), (4, .int (nI k)), (5, .int (nI x)), (6, .int (nI w)), (7, .int (nI y)), (8, .int (nI t)), (9, .int (nI i)), (10, .int (nI j))]) C.hx C.hb dL_law_222 hl (by decide) rfl (fun ls hl => ?_)
  refine lv_aload_n C.hx C.hb dL_law_224 rfl (lv_at hl 2 rfl) ?_
  refine lv_iconst (v := nI 3) C.hx C.hb dL_law_225 (by decide +kernel) ?_
  refine lv_iload C.hx C.hb dL_law_226 (lv_at hl 10 rfl) ?_
  refine lv_iload C.hx C.hb dL_law_228 (lv_at hl 11 rfl) ?_
  refine lv_iload C.hx C.hb dL_law_230 (lv_at hl 8 rfl) ?_
  refine lv_bipush (v := nI 7) C.hx C.hb dL_law_232 (by decide +kernel) ?_
  refine lv_idiv C.hx C.hb dL_law_234 (by decide +kernel) ?_
  refine q_top (y := nI (y / 7)) (pk_div (by omega) (by omega) (by omega)) ?_
  refine lv_bipush (v := nI 101) C.hx C.hb dL_law_235 (by decide +kernel) ?_
  refine lv_irem C.hx C.hb dL_law_237 (by decide +kernel) ?_
  refine q_top (y := nI ((y / 7) % 101)) (pk_rem (by omega) (by omega) (by omega)) ?_
  refine lv_bipush (v := nI 50) C.hx C.hb dL_law_238 (by decide +kernel) ?_
  refine lv_isub C.hx C.hb dL_law_240 ?_
  refine lv_iconst (v := nI 0) C.hx C.hb dL_law_241 (by decide +kernel) ?_
  refine q_cB (w := 3) (p0 := nI i) (p1 := nI j) (p2 := nI ((y / 7) % 101) - nI 50) (p3 := nI 0) (r := -7000003) (c2 := cells + 1) (s2 := slots + 6) C hP hD hS (sm_aheadx C.htr hI hi hj hij hw h (nI 0)) hl rfl (Nat.le_of_ble_eq_true rfl) ⟨Nat.le_of_ble_eq_true rfl, Nat.le_of_ble_eq_true rfl⟩ ⟨by omega, by omega⟩ ⟨by omega, by omega⟩ dL_law_242 (fun g2 z2 H locs hp hP hD hS => ?_)
  obtain ⟨hI2, e02, e22, -⟩ := hp
  refine lv_istore (lv' := [(12, .int (-7000003)), (11, .int (g 17 j)), (0, .ref (b0)), (1, .ref (ad 70)), (2, .int (nI (z 0))), (3, .int (nI (z 2))), (4, .int (nI k)), (5, .int (nI x)), (6, .int (nI w)), (7, .int (nI y)), (8, .int (nI t)), (9, .int (nI i)), (10, .int (nI j))]) C.hx C.hb dL_law_245 hl (by decide) rfl (fun ls hl => ?_)
  refine lv_iload C.hx C.hb dL_law_247 (lv_at hl 0 rfl) ?_
  refine lv_ldc (v := -7000002) C.hx C.hb C.hown (C.hT.use kk_L_93 _) dL_law_249 ?_
  refine lv_icmp_ne (tgt := 258) C.hx C.hb dL_law_251 (by decide) (fun _ => ?_) (fun c9 => absurd c9 (by decide +kernel))
  refine lv_iconst (v := nI 0) C.hx C.hb dL_law_258 (by decide +kernel) ?_
  refine lv_iload C.hx C.hb dL_law_259 (lv_at hl 11 rfl) ?_
  refine lv_iload C.hx C.hb dL_law_261 (lv_at hl 12 rfl) ?_
  refine lv_icmp_ne (tgt := 270) C.hx C.hb dL_law_263 (by decide) (fun _ => ?_) (fun c9 => absurd c9 (by rw [nI_eq (by omega) (by omega)]; omega))
  refine lv_iconst (v := nI 0) C.hx C.hb dL_law_270 (by decide +kernel) ?_
  refine lv_icmp_ne (tgt := 326) C.hx C.hb dL_law_271 (by decide) (fun c9 => absurd c9 (by decide +kernel)) (fun _ => ?_)
  refine lv_iload C.hx C.hb dL_law_274 (lv_at hl 0 rfl) ?_
  refine lv_iload_n C.hx C.hb dL_law_276 rfl (lv_at hl 4 rfl) ?_
  refine lv_icmp_gt (tgt := 326) C.hx C.hb dL_law_277 (by decide) (fun c9 => absurd c9 (nneg gI3 (by omega))) (fun _ => ?_)
  refine lv_iload C.hx C.hb dL_law_280 (lv_at hl 0 rfl) ?_
  refine lv_if_lt (tgt := 328) C.hx C.hb dL_law_282 (by decide) (fun _ => ?_) (fun c9 => absurd c9 (by decide +kernel))
  refine lv_goto (tgt := 1286) C.hx C.hb dL_law_328 (by decide) ?_
  refine W.widen (k := cells + 12) (n := slots + 72) (by omega) (by omega) ?_
  exact kk g2 z2 H locs ls (z 0) (z 2) hI2 e02 e22  hP hD hS (lv_sub hl [2, 3, 4, 5, 6] rfl)

set_option maxRecDepth 100000 in
set_option maxHeartbeats 4000000 in
theorem lp2_ok {p : Program} {l : Launch} {e : Env} {s : State} {m : MethodId} {below : List Frame} {meth : Method} {c : Code} {b0 : Nat} {D : va_G} {cA : ClassId} {ad : Nat → Nat} {k cells slots : Nat} {Q : State → Prop} {g : Nat → Nat → Int32} {z : Nat → Nat} (C : lcx p l s m c cL_law 15 D cA (lwA s)) (hroom : cells + 12 ≤ room_1.cells ∧ slots + 72 ≤ room_1.slots) (hI : inv g z) {x w y t i j : Nat} (hy : y < 2000000) (ht : t < 2000000) (hi : i < z 0) (hj : j < z 0) (hij : ¬ i = j) (h40 : z 1 < 40) (hd : ahD g z i j (nI (y / 7 % 101) - nI 50) = true) (kk : LK p l e s m below meth c b0 D cA ad k (cells + 12) (slots + 72) Q 1286) : ∀ (H : Heap) (locs : List Loc) (ls : Array Slot), va_P D vwCl (rlW cA ad g z) H → va_D (lwA s) (rlW cA ad g z) → va_S (lwA s) s.heap H locs → lv_has ls 15 [(0, .ref (b0)), (1, .ref (ad 70)), (2, .int (nI (z 0))), (3, .int (nI (z 2))), (4, .int (nI k)), (5, .int (nI x)), (6, .int (nI w)), (7, .int (nI y)), (8, .int (nI t)), (9, .int (nI i)), (10, .int (nI j))] → W p l e room_1 s m #[.ref b0] below meth c H locs cells slots Q (F0 m 215 ls []) := by
  intro H locs ls hP hD hS hl
  have hz0 := hI.hz0
  have hz2 := hI.hz2
  have hs := SRrf hI
  have q1 : y / 7 % 101 < 101 := Nat.mod_lt _ (by omega)
  have hw := gapR q1
  obtain ⟨mm, emm⟩ : ∃ q, q = ahM g z i j (nI (y / 7 % 101) - nI 50) := ⟨_, rfl⟩
  have hmm : mm ≤ z 0 := by rw [emm]; exact fa_moved hI hi hj hw
  refine lv_aload_n C.hx C.hb dL_law_215 rfl (lv_at hl 1 rfl) ?_
  refine lv_iload C.hx C.hb dL_law_216 (lv_at hl 10 rfl) ?_
  refine lv_iconst (v := nI 0) C.hx C.hb dL_law_218 (by decide +kernel) ?_
  refine q_cE (r := g 17 j) (As := [.int (nI j), .int (q_b false)]) C hP hD hS (c_X5_year l D cA ad g z j false hj hI.hz0) k_X5_year kl_L_31 rfl hl rfl rfl (Nat.le_of_ble_eq_true rfl) ⟨⟨rfl, rfl⟩, Nat.le_of_ble_eq_true rfl, Nat.le_of_ble_eq_true rfl⟩ ⟨by omega, by omega⟩ dL_law_219 (fun H locs hP hD hS => ?_)
  refine lv_istore (lv' := [(11, .int (g 17 j)), (0, .ref (b0)), (1, .ref (ad 70)), (2, .int (nI (z 0))), (3, .int (nI (z 2))), (4, .int (nI k)), (5, .int (nI x)), (6, .int (nI w)), (7, .int (nI y)), (8, .int (nI t)), (9, .int (nI i)), (10, .int (nI j))]) C.hx C.hb dL_law_222 hl (by decide) rfl (fun ls hl => ?_)
  refine lv_aload_n C.hx C.hb dL_law_224 rfl (lv_at hl 2 rfl) ?_
  refine lv_iconst (v := nI 3) C.hx C.hb dL_law_225 (by decide +kernel) ?_
  refine lv_iload C.hx C.hb dL_law_226 (lv_at hl 10 rfl) ?_
  refine lv_iload C.hx C.hb dL_law_228 (lv_at hl 11 rfl) ?_
  refine lv_iload C.hx C.hb dL_law_230 (lv_at hl 8 rfl) ?_
  refine lv_bipush (v := nI 7) C.hx C.hb dL_law_232 (by decide +kernel) ?_
  refine lv_idiv C.hx C.hb dL_law_234 (by decide +kernel) ?_
  refine q_top (y := nI (y / 7)) (pk_div (by omega) (by omega) (by omega)) ?_
  refine lv_bipush (v := nI 101) C.hx C.hb dL_law_235 (by decide +kernel) ?_
  refine lv_irem C.hx C.hb dL_law_237 (by decide +kernel) ?_
  refine q_top (y := nI ((y / 7) % 101)) (pk_rem (by omega) (by omega) (by omega)) ?_
  refine lv_bipush (v := nI 50) C.hx C.hb dL_law_238 (by decide +kernel) ?_
  refine lv_isub C.hx C.hb dL_law_240 ?_
  refine lv_iconst (v := nI 0) C.hx C.hb dL_law_241 (by decide +kernel) ?_
  refine q_cB (w := 3) (p0 := nI i) (p1 := nI j) (p2 := nI ((y / 7) % 101) - nI 50) (p3 := nI 0) (r := nI mm) (c2 := cells + 1) (s2 := slots + 6) C hP hD hS ((sm_ahead hI hi hj hij hw h40 hd (nI 0)).mono (congrArg nI emm.symm) (fun _ q => q)) hl rfl (Nat.le_of_ble_eq_true rfl) ⟨Nat.le_of_ble_eq_true rfl, Nat.le_of_ble_eq_true rfl⟩ ⟨by omega, by omega⟩ ⟨by omega, by omega⟩ dL_law_242 (fun g2 z2 H locs hp hP hD hS => ?_)
  obtain ⟨hI2, e02, e22, ⟨f1, f2⟩⟩ := hp
  have hs2 : SR g2 (z 0) (z2 1) (z 2) g2 z2 := by have q := SRrf hI2; rw [e02, e22] at q; exact q
  have rg := rY_rg hI2.1
  have es := gapS (rg.2.1 i) q1
  have ew : (nI (y / 7 % 101) - nI 50).toInt = ((y / 7 % 101 : Nat) : Int) - 50 := pk_sub_toInt (by omega) (by omega)
  refine lv_istore (lv' := [(12, .int (nI mm)), (11, .int (g 17 j)), (0, .ref (b0)), (1, .ref (ad 70)), (2, .int (nI (z 0))), (3, .int (nI (z 2))), (4, .int (nI k)), (5, .int (nI x)), (6, .int (nI w)), (7, .int (nI y)), (8, .int (nI t)), (9, .int (nI i)), (10, .int (nI j))]) C.hx C.hb dL_law_245 hl (by decide) rfl (fun ls hl => ?_)
  refine lv_iload C.hx C.hb dL_law_247 (lv_at hl 0 rfl) ?_
  refine lv_ldc (v := -7000002) C.hx C.hb C.hown (C.hT.use kk_L_93 _) dL_law_249 ?_
  refine lv_icmp_ne (tgt := 258) C.hx C.hb dL_law_251 (by decide) (fun _ => ?_) (fun c9 => absurd c9 (nnegE gI2 (by omega)))
  refine lv_iconst (v := nI 0) C.hx C.hb dL_law_258 (by decide +kernel) ?_
  refine lv_iload C.hx C.hb dL_law_259 (lv_at hl 11 rfl) ?_
  refine lv_iload C.hx C.hb dL_law_261 (lv_at hl 12 rfl) ?_
  refine lv_icmp_ne (tgt := 270) C.hx C.hb dL_law_263 (by decide) (fun _ => ?_) (fun c9 => absurd c9 (by rw [nI_eq (by omega) (by omega)]; omega))
  refine lv_iconst (v := nI 0) C.hx C.hb dL_law_270 (by decide +kernel) ?_
  refine lv_icmp_ne (tgt := 326) C.hx C.hb dL_law_271 (by decide) (fun c9 => absurd c9 (by decide +kernel)) (fun _ => ?_)
  refine lv_iload C.hx C.hb dL_law_274 (lv_at hl 0 rfl) ?_
  refine lv_iload_n C.hx C.hb dL_law_276 rfl (lv_at hl 4 rfl) ?_
  refine lv_icmp_gt (tgt := 326) C.hx C.hb dL_law_277 (by decide) (fun c9 => absurd c9 (by rw [nI_ltI (by omega) (by omega)]; omega)) (fun _ => ?_)
  refine lv_iload C.hx C.hb dL_law_280 (lv_at hl 0 rfl) ?_
  refine lv_if_lt (tgt := 328) C.hx C.hb dL_law_282 (by decide) (fun c9 => absurd c9 (nI_pos (by omega))) (fun _ => ?_)
  refine lv_aload_n C.hx C.hb dL_law_285 rfl (lv_at hl 3 rfl) ?_
  refine lv_iload C.hx C.hb dL_law_286 (lv_at hl 12 rfl) ?_
  refine lv_iconst (v := nI 0) C.hx C.hb dL_law_288 (by decide +kernel) ?_
  refine q_cQ (r := g2 17 j) (As := [.int (nI j), .int (q_b false)]) C hP hD hS (sq_year hs2 hj false) k_X5_year kl_L_31 rfl hl rfl rfl (Nat.le_of_ble_eq_true rfl) ⟨⟨rfl, rfl⟩, Nat.le_of_ble_eq_true rfl, Nat.le_of_ble_eq_true rfl⟩ ⟨by omega, by omega⟩ dL_law_289 (fun g3 z3 H locs hp hP hD hS => ?_)
  have hs3 := hp
  refine lv_iload C.hx C.hb dL_law_292 (lv_at hl 1 rfl) ?_
  refine lv_icmp_lt (tgt := 326) C.hx C.hb dL_law_294 (by decide) (fun c9 => absurd (zz_lt.1 c9) (by omega)) (fun _ => ?_)
  refine lv_aload_n C.hx C.hb dL_law_297 rfl (lv_at hl 3 rfl) ?_
  refine lv_iload C.hx C.hb dL_law_298 (lv_at hl 12 rfl) ?_
  refine lv_iconst (v := nI 0) C.hx C.hb dL_law_300 (by decide +kernel) ?_
  refine q_cQ (r := g2 17 j) (As := [.int (nI j), .int (q_b false)]) C hP hD hS (sq_year hs3 hj false) k_X5_year kl_L_31 rfl hl rfl rfl (Nat.le_of_ble_eq_true rfl) ⟨⟨rfl, rfl⟩, Nat.le_of_ble_eq_true rfl, Nat.le_of_ble_eq_true rfl⟩ ⟨by omega, by omega⟩ dL_law_301 (fun g4 z4 H locs hp hP hD hS => ?_)
  have hs4 := hp
  refine lv_aload_n C.hx C.hb dL_law_304 rfl (lv_at hl 3 rfl) ?_
  refine lv_iload C.hx C.hb dL_law_305 (lv_at hl 11 rfl) ?_
  refine lv_iconst (v := nI 0) C.hx C.hb dL_law_307 (by decide +kernel) ?_
  refine q_cQ (r := g2 17 i) (As := [.int (nI i), .int (q_b false)]) C hP hD hS (sq_year hs4 hi false) k_X5_year kl_L_31 rfl hl rfl rfl (Nat.le_of_ble_eq_true rfl) ⟨⟨rfl, rfl⟩, Nat.le_of_ble_eq_true rfl, Nat.le_of_ble_eq_true rfl⟩ ⟨by omega, by omega⟩ dL_law_308 (fun g5 z5 H locs hp hP hD hS => ?_)
  have hs5 := hp
  refine lv_iload C.hx C.hb dL_law_311 (lv_at hl 9 rfl) ?_
  refine lv_bipush (v := nI 7) C.hx C.hb dL_law_313 (by decide +kernel) ?_
  refine lv_idiv C.hx C.hb dL_law_315 (by decide +kernel) ?_
  refine q_top (y := nI (y / 7)) (pk_div (by omega) (by omega) (by omega)) ?_
  refine lv_bipush (v := nI 101) C.hx C.hb dL_law_316 (by decide +kernel) ?_
  refine lv_irem C.hx C.hb dL_law_318 (by decide +kernel) ?_
  refine q_top (y := nI ((y / 7) % 101)) (pk_rem (by omega) (by omega) (by omega)) ?_
  refine lv_iadd C.hx C.hb dL_law_319 ?_
  refine lv_bipush (v := nI 50) C.hx C.hb dL_law_320 (by decide +kernel) ?_
  refine lv_isub C.hx C.hb dL_law_322 ?_
  refine lv_icmp_ge (tgt := 328) C.hx C.hb dL_law_323 (by decide) (fun _ => ?_) (fun c9 => absurd (zz_le.2 (by omega)) c9)
  refine lv_goto (tgt := 1286) C.hx C.hb dL_law_328 (by decide) ?_
  refine W.widen (k := cells + 12) (n := slots + 72) (by omega) (by omega) ?_
  exact kk g5 z5 H locs ls (z 0) (z 2) hs5.2.2.2.2 hs5.2.1 hs5.2.2.2.1  hP hD hS (lv_sub hl [2, 3, 4, 5, 6] rfl)

set_option maxRecDepth 100000 in
set_option maxHeartbeats 4000000 in
theorem lp3_ok {p : Program} {l : Launch} {e : Env} {s : State} {m : MethodId} {below : List Frame} {meth : Method} {c : Code} {b0 : Nat} {D : va_G} {cA : ClassId} {ad : Nat → Nat} {k cells slots : Nat} {Q : State → Prop} {g : Nat → Nat → Int32} {z : Nat → Nat} (C : lcx p l s m c cL_law 15 D cA (lwA s)) (hroom : cells + 12 ≤ room_1.cells ∧ slots + 72 ≤ room_1.slots) (hI : inv g z) {x w y t i j : Nat} (hy : y < 2000000) (ht : t < 2000000) (hi : i < z 0) (hj : j < z 0) {lo hh : Nat} (elo : lo = y / 16 % 1000) (ehh : hh = lo + t % (1000 - lo)) (hlo : lo < 1000) (hhh : lo ≤ hh ∧ hh < 1000) (hd : fnD g z i (nI lo) (nI hh) = true) (kk : LK p l e s m below meth c b0 D cA ad k (cells + 12) (slots + 72) Q 1286) : ∀ (H : Heap) (locs : List Loc) (ls : Array Slot), va_P D vwCl (rlW cA ad g z) H → va_D (lwA s) (rlW cA ad g z) → va_S (lwA s) s.heap H locs → lv_has ls 15 [(0, .ref (b0)), (1, .ref (ad 70)), (2, .int (nI (z 0))), (3, .int (nI (z 2))), (4, .int (nI k)), (5, .int (nI x)), (6, .int (nI w)), (7, .int (nI y)), (8, .int (nI t)), (9, .int (nI i)), (10, .int (nI j))] → W p l e room_1 s m #[.ref b0] below meth c H locs cells slots Q (F0 m 337 ls []) := by
  intro H locs ls hP hD hS hl
  have hz0 := hI.hz0
  have hz2 := hI.hz2
  have hs := SRrf hI
  have l1 := loR hlo
  have l2 := hiR hhh.1 hhh.2
  obtain ⟨mm, emm⟩ : ∃ q, fnM g z i (nI lo) (nI hh) = q := ⟨_, rfl⟩
  have hmm : mm ≤ z 0 := by rw [← emm]; exact fn_moved hI hi l1 l2
  refine lv_iload C.hx C.hb dL_law_337 (lv_at hl 7 rfl) ?_
  refine lv_bipush (v := nI 16) C.hx C.hb dL_law_339 (by decide +kernel) ?_
  refine lv_idiv C.hx C.hb dL_law_341 (by decide +kernel) ?_
  refine q_top (y := nI (y / 16)) (pk_div (by omega) (by omega) (by omega)) ?_
  refine lv_sipush (v := nI 1000) C.hx C.hb dL_law_342 (by decide +kernel) ?_
  refine lv_irem C.hx C.hb dL_law_345 (by decide +kernel) ?_
  refine q_top (y := nI lo) (by rw [elo]; exact pk_rem (by omega) (by omega) (by omega)) ?_
  refine lv_istore (lv' := [(11, .int (nI lo)), (0, .ref (b0)), (1, .ref (ad 70)), (2, .int (nI (z 0))), (3, .int (nI (z 2))), (4, .int (nI k)), (5, .int (nI x)), (6, .int (nI w)), (7, .int (nI y)), (8, .int (nI t)), (9, .int (nI i)), (10, .int (nI j))]) C.hx C.hb dL_law_346 hl (by decide) rfl (fun ls hl => ?_)
  refine lv_iload C.hx C.hb dL_law_348 (lv_at hl 0 rfl) ?_
  refine lv_iload C.hx C.hb dL_law_350 (lv_at hl 9 rfl) ?_
  refine lv_sipush (v := nI 1000) C.hx C.hb dL_law_352 (by decide +kernel) ?_
  refine lv_iload C.hx C.hb dL_law_355 (lv_at hl 0 rfl) ?_
  refine lv_isub C.hx C.hb dL_law_357 ?_
  refine q_top (y := nI (1000 - lo)) (pk_sub (by omega)) ?_
  refine lv_irem C.hx C.hb dL_law_358 (nI_ne0 (by omega) (by omega)) ?_
  refine q_top (y := nI (t % (1000 - lo))) (pk_rem (by omega) (by omega) (by omega)) ?_
  refine lv_iadd C.hx C.hb dL_law_359 ?_
  refine q_top (y := nI hh) (by rw [ehh]; exact nI_add _ _) ?_
  refine lv_istore (lv' := [(12, .int (nI hh)), (11, .int (nI lo)), (0, .ref (b0)), (1, .ref (ad 70)), (2, .int (nI (z 0))), (3, .int (nI (z 2))), (4, .int (nI k)), (5, .int (nI x)), (6, .int (nI w)), (7, .int (nI y)), (8, .int (nI t)), (9, .int (nI i)), (10, .int (nI j))]) C.hx C.hb dL_law_360 hl (by decide) rfl (fun ls hl => ?_)
  refine lv_aload_n C.hx C.hb dL_law_362 rfl (lv_at hl 3 rfl) ?_
  refine lv_iload C.hx C.hb dL_law_363 (lv_at hl 11 rfl) ?_
  refine lv_iload C.hx C.hb dL_law_365 (lv_at hl 1 rfl) ?_
  refine lv_iload C.hx C.hb dL_law_367 (lv_at hl 0 rfl) ?_
  refine q_cQ (r := nI mm) (As := [.int (nI i), .int (nI lo), .int (nI hh)]) C hP hD hS (sm_wm_t hI hi l1 l2 hd emm) k_X5_wouldMove kl_L_28 rfl hl rfl rfl (Nat.le_of_ble_eq_true rfl) ⟨⟨rfl, rfl⟩, Nat.le_of_ble_eq_true rfl, Nat.le_of_ble_eq_true rfl⟩ ⟨by omega, by omega⟩ dL_law_369 (fun g2 z2 H locs hp hP hD hS => ?_)
  obtain ⟨hI2, e02, e22, ⟨f1, f2⟩⟩ := hp
  have hi2 : i < z2 0 := by rw [e02]; exact hi
  refine lv_istore (lv' := [(13, .int (nI mm)), (12, .int (nI hh)), (11, .int (nI lo)), (0, .ref (b0)), (1, .ref (ad 70)), (2, .int (nI (z 0))), (3, .int (nI (z 2))), (4, .int (nI k)), (5, .int (nI x)), (6, .int (nI w)), (7, .int (nI y)), (8, .int (nI t)), (9, .int (nI i)), (10, .int (nI j))]) C.hx C.hb dL_law_372 hl (by decide) rfl (fun ls hl => ?_)
  refine lv_aload_n C.hx C.hb dL_law_374 rfl (lv_at hl 4 rfl) ?_
  refine lv_iconst (v := nI 4) C.hx C.hb dL_law_375 (by decide +kernel) ?_
  refine lv_iload C.hx C.hb dL_law_376 (lv_at hl 12 rfl) ?_
  refine lv_iload C.hx C.hb dL_law_378 (lv_at hl 2 rfl) ?_
  refine lv_iload C.hx C.hb dL_law_380 (lv_at hl 1 rfl) ?_
  refine lv_iconst (v := nI 0) C.hx C.hb dL_law_382 (by decide +kernel) ?_
  refine q_cB (w := 4) (p0 := nI i) (p1 := nI lo) (p2 := nI hh) (p3 := nI 0) (r := nI mm) (c2 := cells + 1) (s2 := slots + 6) C hP hD hS ((sm_find hI2 hi2 l1 l2 f1 (nI 0)).mono (congrArg nI f2) (fun _ q => q)) hl rfl (Nat.le_of_ble_eq_true rfl) ⟨Nat.le_of_ble_eq_true rfl, Nat.le_of_ble_eq_true rfl⟩ ⟨by omega, by omega⟩ ⟨by omega, by omega⟩ dL_law_383 (fun g3 z3 H locs hp hP hD hS => ?_)
  obtain ⟨hI3, e03, e23, ⟨f3, f4⟩⟩ := hp
  have e03 := e03.trans e02
  have e23 := e23.trans e22
  have hs3 : SR g3 (z 0) (z3 1) (z 2) g3 z3 := by have q := SRrf hI3; rw [e03, e23] at q; exact q
  have fle := fy_le hI3 (k := j) (by rw [e03]; exact hj)
  refine lv_istore (lv' := [(14, .int (nI mm)), (13, .int (nI mm)), (12, .int (nI hh)), (11, .int (nI lo)), (0, .ref (b0)), (1, .ref (ad 70)), (2, .int (nI (z 0))), (3, .int (nI (z 2))), (4, .int (nI k)), (5, .int (nI x)), (6, .int (nI w)), (7, .int (nI y)), (8, .int (nI t)), (9, .int (nI i)), (10, .int (nI j))]) C.hx C.hb dL_law_386 hl (by decide) rfl (fun ls hl => ?_)
  refine lv_iload C.hx C.hb dL_law_388 (lv_at hl 0 rfl) ?_
  refine lv_iload C.hx C.hb dL_law_390 (lv_at hl 1 rfl) ?_
  refine lv_if_ge (tgt := 400) C.hx C.hb dL_law_392 (by decide) (fun _ => ?_) (fun c9 => absurd (nI_pos' (by omega)) c9)
  refine lv_iload C.hx C.hb dL_law_400 (lv_at hl 1 rfl) ?_
  refine lv_icmp_ne (tgt := 434) C.hx C.hb dL_law_402 (by decide) (fun c9 => absurd rfl c9) (fun _ => ?_)
  refine lv_iload C.hx C.hb dL_law_405 (lv_at hl 1 rfl) ?_
  refine lv_if_lt (tgt := 436) C.hx C.hb dL_law_407 (by decide) (fun c9 => absurd c9 (nI_pos (by omega))) (fun _ => ?_)
  refine lv_aload_n C.hx C.hb dL_law_410 rfl (lv_at hl 5 rfl) ?_
  refine lv_iload C.hx C.hb dL_law_411 (lv_at hl 13 rfl) ?_
  refine lv_iconst (v := nI 0) C.hx C.hb dL_law_413 (by decide +kernel) ?_
  refine q_cQ (r := g3 17 i) (As := [.int (nI i), .int (q_b false)]) C hP hD hS (sq_year hs3 hi false) k_X5_year kl_L_31 rfl hl rfl rfl (Nat.le_of_ble_eq_true rfl) ⟨⟨rfl, rfl⟩, Nat.le_of_ble_eq_true rfl, Nat.le_of_ble_eq_true rfl⟩ ⟨by omega, by omega⟩ dL_law_414 (fun g4 z4 H locs hp hP hD hS => ?_)
  have hs4 := hp
  refine lv_iload C.hx C.hb dL_law_417 (lv_at hl 3 rfl) ?_
  refine lv_icmp_lt (tgt := 434) C.hx C.hb dL_law_419 (by decide) (fun c9 => absurd (zz_lt.1 c9) (by omega)) (fun _ => ?_)
  refine lv_aload_n C.hx C.hb dL_law_422 rfl (lv_at hl 5 rfl) ?_
  refine lv_iload C.hx C.hb dL_law_423 (lv_at hl 13 rfl) ?_
  refine lv_iconst (v := nI 1) C.hx C.hb dL_law_425 (by decide +kernel) ?_
  refine q_cQ (r := g3 18 i) (As := [.int (nI i), .int (q_b true)]) C hP hD hS (sq_year hs4 hi true) k_X5_year kl_L_31 rfl hl rfl rfl (Nat.le_of_ble_eq_true rfl) ⟨⟨rfl, rfl⟩, Nat.le_of_ble_eq_true rfl, Nat.le_of_ble_eq_true rfl⟩ ⟨by omega, by omega⟩ dL_law_426 (fun g5 z5 H locs hp hP hD hS => ?_)
  have hs5 := hp
  refine lv_iload C.hx C.hb dL_law_429 (lv_at hl 2 rfl) ?_
  refine lv_icmp_le (tgt := 436) C.hx C.hb dL_law_431 (by decide) (fun _ => ?_) (fun c9 => absurd (zz_le.2 (by omega)) c9)
  refine lv_aload_n C.hx C.hb dL_law_436 rfl (lv_at hl 5 rfl) ?_
  refine lv_iload C.hx C.hb dL_law_437 (lv_at hl 14 rfl) ?_
  refine lv_iconst (v := nI 0) C.hx C.hb dL_law_439 (by decide +kernel) ?_
  refine q_cQ (r := g3 17 j) (As := [.int (nI j), .int (q_b false)]) C hP hD hS (sq_year hs5 hj false) k_X5_year kl_L_31 rfl hl rfl rfl (Nat.le_of_ble_eq_true rfl) ⟨⟨rfl, rfl⟩, Nat.le_of_ble_eq_true rfl, Nat.le_of_ble_eq_true rfl⟩ ⟨by omega, by omega⟩ dL_law_440 (fun g6 z6 H locs hp hP hD hS => ?_)
  have hs6 := hp
  refine lv_aload_n C.hx C.hb dL_law_443 rfl (lv_at hl 5 rfl) ?_
  refine lv_iload C.hx C.hb dL_law_444 (lv_at hl 14 rfl) ?_
  refine lv_iconst (v := nI 0) C.hx C.hb dL_law_446 (by decide +kernel) ?_
  refine q_cQ (r := g3 17 j) (As := [.int (nI j), .int (q_b false)]) C hP hD hS (sq_yearAnew hs6 hj false) k_X5_yearAnew kl_L_35 rfl hl rfl rfl (Nat.le_of_ble_eq_true rfl) ⟨⟨rfl, rfl⟩, Nat.le_of_ble_eq_true rfl, Nat.le_of_ble_eq_true rfl⟩ ⟨by omega, by omega⟩ dL_law_447 (fun g7 z7 H locs hp hP hD hS => ?_)
  have hs7 := hp
  refine lv_icmp_ne (tgt := 487) C.hx C.hb dL_law_450 (by decide) (fun c9 => absurd rfl c9) (fun _ => ?_)
  refine lv_aload_n C.hx C.hb dL_law_453 rfl (lv_at hl 5 rfl) ?_
  refine lv_iload C.hx C.hb dL_law_454 (lv_at hl 14 rfl) ?_
  refine lv_iconst (v := nI 1) C.hx C.hb dL_law_456 (by decide +kernel) ?_
  refine q_cQ (r := g3 18 j) (As := [.int (nI j), .int (q_b true)]) C hP hD hS (sq_year hs7 hj true) k_X5_year kl_L_31 rfl hl rfl rfl (Nat.le_of_ble_eq_true rfl) ⟨⟨rfl, rfl⟩, Nat.le_of_ble_eq_true rfl, Nat.le_of_ble_eq_true rfl⟩ ⟨by omega, by omega⟩ dL_law_457 (fun g8 z8 H locs hp hP hD hS => ?_)
  have hs8 := hp
  refine lv_aload_n C.hx C.hb dL_law_460 rfl (lv_at hl 5 rfl) ?_
  refine lv_iload C.hx C.hb dL_law_461 (lv_at hl 14 rfl) ?_
  refine lv_iconst (v := nI 1) C.hx C.hb dL_law_463 (by decide +kernel) ?_
  refine q_cQ (r := g3 18 j) (As := [.int (nI j), .int (q_b true)]) C hP hD hS (sq_yearAnew hs8 hj true) k_X5_yearAnew kl_L_35 rfl hl rfl rfl (Nat.le_of_ble_eq_true rfl) ⟨⟨rfl, rfl⟩, Nat.le_of_ble_eq_true rfl, Nat.le_of_ble_eq_true rfl⟩ ⟨by omega, by omega⟩ dL_law_464 (fun g9 z9 H locs hp hP hD hS => ?_)
  have hs9 := hp
  refine lv_icmp_ne (tgt := 487) C.hx C.hb dL_law_467 (by decide) (fun c9 => absurd rfl c9) (fun _ => ?_)
  refine lv_aload_n C.hx C.hb dL_law_470 rfl (lv_at hl 5 rfl) ?_
  refine lv_iload C.hx C.hb dL_law_471 (lv_at hl 14 rfl) ?_
  refine lv_iconst (v := nI 0) C.hx C.hb dL_law_473 (by decide +kernel) ?_
  refine q_cQ (r := g3 17 j) (As := [.int (nI j), .int (q_b false)]) C hP hD hS (sq_year hs9 hj false) k_X5_year kl_L_31 rfl hl rfl rfl (Nat.le_of_ble_eq_true rfl) ⟨⟨rfl, rfl⟩, Nat.le_of_ble_eq_true rfl, Nat.le_of_ble_eq_true rfl⟩ ⟨by omega, by omega⟩ dL_law_474 (fun g10 z10 H locs hp hP hD hS => ?_)
  have hs10 := hp
  refine lv_aload_n C.hx C.hb dL_law_477 rfl (lv_at hl 5 rfl) ?_
  refine lv_iload C.hx C.hb dL_law_478 (lv_at hl 14 rfl) ?_
  refine lv_iconst (v := nI 1) C.hx C.hb dL_law_480 (by decide +kernel) ?_
  refine q_cQ (r := g3 18 j) (As := [.int (nI j), .int (q_b true)]) C hP hD hS (sq_year hs10 hj true) k_X5_year kl_L_31 rfl hl rfl rfl (Nat.le_of_ble_eq_true rfl) ⟨⟨rfl, rfl⟩, Nat.le_of_ble_eq_true rfl, Nat.le_of_ble_eq_true rfl⟩ ⟨by omega, by omega⟩ dL_law_481 (fun g11 z11 H locs hp hP hD hS => ?_)
  have hs11 := hp
  refine lv_icmp_le (tgt := 489) C.hx C.hb dL_law_484 (by decide) (fun _ => ?_) (fun c9 => absurd (zz_le.2 fle) c9)
  refine lv_goto (tgt := 1286) C.hx C.hb dL_law_489 (by decide) ?_
  refine W.widen (k := cells + 12) (n := slots + 72) (by omega) (by omega) ?_
  exact kk g11 z11 H locs ls (z 0) (z 2) hs11.2.2.2.2 hs11.2.1 hs11.2.2.2.1  hP hD hS (lv_sub hl [4, 5, 6, 7, 8] rfl)

set_option maxRecDepth 100000 in
set_option maxHeartbeats 4000000 in
theorem lp3_no {p : Program} {l : Launch} {e : Env} {s : State} {m : MethodId} {below : List Frame} {meth : Method} {c : Code} {b0 : Nat} {D : va_G} {cA : ClassId} {ad : Nat → Nat} {k cells slots : Nat} {Q : State → Prop} {g : Nat → Nat → Int32} {z : Nat → Nat} (C : lcx p l s m c cL_law 15 D cA (lwA s)) (hroom : cells + 12 ≤ room_1.cells ∧ slots + 72 ≤ room_1.slots) (hI : inv g z) {x w y t i j : Nat} (hy : y < 2000000) (ht : t < 2000000) (hi : i < z 0) (hj : j < z 0) {lo hh : Nat} (elo : lo = y / 16 % 1000) (ehh : hh = lo + t % (1000 - lo)) (hlo : lo < 1000) (hhh : lo ≤ hh ∧ hh < 1000) (hd : fnD g z i (nI lo) (nI hh) = false) (kk : LK p l e s m below meth c b0 D cA ad k (cells + 12) (slots + 72) Q 1286) : ∀ (H : Heap) (locs : List Loc) (ls : Array Slot), va_P D vwCl (rlW cA ad g z) H → va_D (lwA s) (rlW cA ad g z) → va_S (lwA s) s.heap H locs → lv_has ls 15 [(0, .ref (b0)), (1, .ref (ad 70)), (2, .int (nI (z 0))), (3, .int (nI (z 2))), (4, .int (nI k)), (5, .int (nI x)), (6, .int (nI w)), (7, .int (nI y)), (8, .int (nI t)), (9, .int (nI i)), (10, .int (nI j))] → W p l e room_1 s m #[.ref b0] below meth c H locs cells slots Q (F0 m 337 ls []) := by
  intro H locs ls hP hD hS hl
  have hz0 := hI.hz0
  have hz2 := hI.hz2
  have hs := SRrf hI
  have l1 := loR hlo
  have l2 := hiR hhh.1 hhh.2
  refine lv_iload C.hx C.hb dL_law_337 (lv_at hl 7 rfl) ?_
  refine lv_bipush (v := nI 16) C.hx C.hb dL_law_339 (by decide +kernel) ?_
  refine lv_idiv C.hx C.hb dL_law_341 (by decide +kernel) ?_
  refine q_top (y := nI (y / 16)) (pk_div (by omega) (by omega) (by omega)) ?_
  refine lv_sipush (v := nI 1000) C.hx C.hb dL_law_342 (by decide +kernel) ?_
  refine lv_irem C.hx C.hb dL_law_345 (by decide +kernel) ?_
  refine q_top (y := nI lo) (by rw [elo]; exact pk_rem (by omega) (by omega) (by omega)) ?_
  refine lv_istore (lv' := [(11, .int (nI lo)), (0, .ref (b0)), (1, .ref (ad 70)), (2, .int (nI (z 0))), (3, .int (nI (z 2))), (4, .int (nI k)), (5, .int (nI x)), (6, .int (nI w)), (7, .int (nI y)), (8, .int (nI t)), (9, .int (nI i)), (10, .int (nI j))]) C.hx C.hb dL_law_346 hl (by decide) rfl (fun ls hl => ?_)
  refine lv_iload C.hx C.hb dL_law_348 (lv_at hl 0 rfl) ?_
  refine lv_iload C.hx C.hb dL_law_350 (lv_at hl 9 rfl) ?_
  refine lv_sipush (v := nI 1000) C.hx C.hb dL_law_352 (by decide +kernel) ?_
  refine lv_iload C.hx C.hb dL_law_355 (lv_at hl 0 rfl) ?_
  refine lv_isub C.hx C.hb dL_law_357 ?_
  refine q_top (y := nI (1000 - lo)) (pk_sub (by omega)) ?_
  refine lv_irem C.hx C.hb dL_law_358 (nI_ne0 (by omega) (by omega)) ?_
  refine q_top (y := nI (t % (1000 - lo))) (pk_rem (by omega) (by omega) (by omega)) ?_
  refine lv_iadd C.hx C.hb dL_law_359 ?_
  refine q_top (y := nI hh) (by rw [ehh]; exact nI_add _ _) ?_
  refine lv_istore (lv' := [(12, .int (nI hh)), (11, .int (nI lo)), (0, .ref (b0)), (1, .ref (ad 70)), (2, .int (nI (z 0))), (3, .int (nI (z 2))), (4, .int (nI k)), (5, .int (nI x)), (6, .int (nI w)), (7, .int (nI y)), (8, .int (nI t)), (9, .int (nI i)), (10, .int (nI j))]) C.hx C.hb dL_law_360 hl (by decide) rfl (fun ls hl => ?_)
  refine lv_aload_n C.hx C.hb dL_law_362 rfl (lv_at hl 3 rfl) ?_
  refine lv_iload C.hx C.hb dL_law_363 (lv_at hl 11 rfl) ?_
  refine lv_iload C.hx C.hb dL_law_365 (lv_at hl 1 rfl) ?_
  refine lv_iload C.hx C.hb dL_law_367 (lv_at hl 0 rfl) ?_
  refine q_cQ (r := -1) (As := [.int (nI i), .int (nI lo), .int (nI hh)]) C hP hD hS (sm_wm_f hI hi l1 l2 hd) k_X5_wouldMove kl_L_28 rfl hl rfl rfl (Nat.le_of_ble_eq_true rfl) ⟨⟨rfl, rfl⟩, Nat.le_of_ble_eq_true rfl, Nat.le_of_ble_eq_true rfl⟩ ⟨by omega, by omega⟩ dL_law_369 (fun g2 z2 H locs hp hP hD hS => ?_)
  obtain ⟨hI2, e02, e22, ⟨f1, -⟩⟩ := hp
  have hi2 : i < z2 0 := by rw [e02]; exact hi
  refine lv_istore (lv' := [(13, .int (-1)), (12, .int (nI hh)), (11, .int (nI lo)), (0, .ref (b0)), (1, .ref (ad 70)), (2, .int (nI (z 0))), (3, .int (nI (z 2))), (4, .int (nI k)), (5, .int (nI x)), (6, .int (nI w)), (7, .int (nI y)), (8, .int (nI t)), (9, .int (nI i)), (10, .int (nI j))]) C.hx C.hb dL_law_372 hl (by decide) rfl (fun ls hl => ?_)
  refine lv_aload_n C.hx C.hb dL_law_374 rfl (lv_at hl 4 rfl) ?_
  refine lv_iconst (v := nI 4) C.hx C.hb dL_law_375 (by decide +kernel) ?_
  refine lv_iload C.hx C.hb dL_law_376 (lv_at hl 12 rfl) ?_
  refine lv_iload C.hx C.hb dL_law_378 (lv_at hl 2 rfl) ?_
  refine lv_iload C.hx C.hb dL_law_380 (lv_at hl 1 rfl) ?_
  refine lv_iconst (v := nI 0) C.hx C.hb dL_law_382 (by decide +kernel) ?_
  refine q_cB (w := 4) (p0 := nI i) (p1 := nI lo) (p2 := nI hh) (p3 := nI 0) (r := -7000003) (c2 := cells + 1) (s2 := slots + 6) C hP hD hS (sm_findx C.htr hI2 hi2 l1 l2 f1 (nI 0)) hl rfl (Nat.le_of_ble_eq_true rfl) ⟨Nat.le_of_ble_eq_true rfl, Nat.le_of_ble_eq_true rfl⟩ ⟨by omega, by omega⟩ ⟨by omega, by omega⟩ dL_law_383 (fun g3 z3 H locs hp hP hD hS => ?_)
  obtain ⟨hI3, e03, e23, -⟩ := hp
  have e03 := e03.trans e02
  have e23 := e23.trans e22
  have hs5 : SR g3 (z 0) (z3 1) (z 2) g3 z3 := by have q := SRrf hI3; rw [e03, e23] at q; exact q
  have fle := fy_le hI3 (k := j) (by rw [e03]; exact hj)
  refine lv_istore (lv' := [(14, .int (-7000003)), (13, .int (-1)), (12, .int (nI hh)), (11, .int (nI lo)), (0, .ref (b0)), (1, .ref (ad 70)), (2, .int (nI (z 0))), (3, .int (nI (z 2))), (4, .int (nI k)), (5, .int (nI x)), (6, .int (nI w)), (7, .int (nI y)), (8, .int (nI t)), (9, .int (nI i)), (10, .int (nI j))]) C.hx C.hb dL_law_386 hl (by decide) rfl (fun ls hl => ?_)
  refine lv_iload C.hx C.hb dL_law_388 (lv_at hl 0 rfl) ?_
  refine lv_iload C.hx C.hb dL_law_390 (lv_at hl 1 rfl) ?_
  refine lv_if_ge (tgt := 400) C.hx C.hb dL_law_392 (by decide) (fun c9 => absurd c9 (by decide +kernel)) (fun _ => ?_)
  refine lv_ldc (v := -7000003) C.hx C.hb C.hown (C.hT.use kk_L_96 _) dL_law_395 ?_
  refine lv_goto (tgt := 402) C.hx C.hb dL_law_397 (by decide) ?_
  refine lv_icmp_ne (tgt := 434) C.hx C.hb dL_law_402 (by decide) (fun c9 => absurd c9 (by decide +kernel)) (fun _ => ?_)
  refine lv_iload C.hx C.hb dL_law_405 (lv_at hl 1 rfl) ?_
  refine lv_if_lt (tgt := 436) C.hx C.hb dL_law_407 (by decide) (fun _ => ?_) (fun c9 => absurd c9 (by decide +kernel))
  refine lv_aload_n C.hx C.hb dL_law_436 rfl (lv_at hl 5 rfl) ?_
  refine lv_iload C.hx C.hb dL_law_437 (lv_at hl 14 rfl) ?_
  refine lv_iconst (v := nI 0) C.hx C.hb dL_law_439 (by decide +kernel) ?_
  refine q_cQ (r := g3 17 j) (As := [.int (nI j), .int (q_b false)]) C hP hD hS (sq_year hs5 hj false) k_X5_year kl_L_31 rfl hl rfl rfl (Nat.le_of_ble_eq_true rfl) ⟨⟨rfl, rfl⟩, Nat.le_of_ble_eq_true rfl, Nat.le_of_ble_eq_true rfl⟩ ⟨by omega, by omega⟩ dL_law_440 (fun g6 z6 H locs hp hP hD hS => ?_)
  have hs6 := hp
  refine lv_aload_n C.hx C.hb dL_law_443 rfl (lv_at hl 5 rfl) ?_
  refine lv_iload C.hx C.hb dL_law_444 (lv_at hl 14 rfl) ?_
  refine lv_iconst (v := nI 0) C.hx C.hb dL_law_446 (by decide +kernel) ?_
  refine q_cQ (r := g3 17 j) (As := [.int (nI j), .int (q_b false)]) C hP hD hS (sq_yearAnew hs6 hj false) k_X5_yearAnew kl_L_35 rfl hl rfl rfl (Nat.le_of_ble_eq_true rfl) ⟨⟨rfl, rfl⟩, Nat.le_of_ble_eq_true rfl, Nat.le_of_ble_eq_true rfl⟩ ⟨by omega, by omega⟩ dL_law_447 (fun g7 z7 H locs hp hP hD hS => ?_)
  have hs7 := hp
  refine lv_icmp_ne (tgt := 487) C.hx C.hb dL_law_450 (by decide) (fun c9 => absurd rfl c9) (fun _ => ?_)
  refine lv_aload_n C.hx C.hb dL_law_453 rfl (lv_at hl 5 rfl) ?_
  refine lv_iload C.hx C.hb dL_law_454 (lv_at hl 14 rfl) ?_
  refine lv_iconst (v := nI 1) C.hx C.hb dL_law_456 (by decide +kernel) ?_
  refine q_cQ (r := g3 18 j) (As := [.int (nI j), .int (q_b true)]) C hP hD hS (sq_year hs7 hj true) k_X5_year kl_L_31 rfl hl rfl rfl (Nat.le_of_ble_eq_true rfl) ⟨⟨rfl, rfl⟩, Nat.le_of_ble_eq_true rfl, Nat.le_of_ble_eq_true rfl⟩ ⟨by omega, by omega⟩ dL_law_457 (fun g8 z8 H locs hp hP hD hS => ?_)
  have hs8 := hp
  refine lv_aload_n C.hx C.hb dL_law_460 rfl (lv_at hl 5 rfl) ?_
  refine lv_iload C.hx C.hb dL_law_461 (lv_at hl 14 rfl) ?_
  refine lv_iconst (v := nI 1) C.hx C.hb dL_law_463 (by decide +kernel) ?_
  refine q_cQ (r := g3 18 j) (As := [.int (nI j), .int (q_b true)]) C hP hD hS (sq_yearAnew hs8 hj true) k_X5_yearAnew kl_L_35 rfl hl rfl rfl (Nat.le_of_ble_eq_true rfl) ⟨⟨rfl, rfl⟩, Nat.le_of_ble_eq_true rfl, Nat.le_of_ble_eq_true rfl⟩ ⟨by omega, by omega⟩ dL_law_464 (fun g9 z9 H locs hp hP hD hS => ?_)
  have hs9 := hp
  refine lv_icmp_ne (tgt := 487) C.hx C.hb dL_law_467 (by decide) (fun c9 => absurd rfl c9) (fun _ => ?_)
  refine lv_aload_n C.hx C.hb dL_law_470 rfl (lv_at hl 5 rfl) ?_
  refine lv_iload C.hx C.hb dL_law_471 (lv_at hl 14 rfl) ?_
  refine lv_iconst (v := nI 0) C.hx C.hb dL_law_473 (by decide +kernel) ?_
  refine q_cQ (r := g3 17 j) (As := [.int (nI j), .int (q_b false)]) C hP hD hS (sq_year hs9 hj false) k_X5_year kl_L_31 rfl hl rfl rfl (Nat.le_of_ble_eq_true rfl) ⟨⟨rfl, rfl⟩, Nat.le_of_ble_eq_true rfl, Nat.le_of_ble_eq_true rfl⟩ ⟨by omega, by omega⟩ dL_law_474 (fun g10 z10 H locs hp hP hD hS => ?_)
  have hs10 := hp
  refine lv_aload_n C.hx C.hb dL_law_477 rfl (lv_at hl 5 rfl) ?_
  refine lv_iload C.hx C.hb dL_law_478 (lv_at hl 14 rfl) ?_
  refine lv_iconst (v := nI 1) C.hx C.hb dL_law_480 (by decide +kernel) ?_
  refine q_cQ (r := g3 18 j) (As := [.int (nI j), .int (q_b true)]) C hP hD hS (sq_year hs10 hj true) k_X5_year kl_L_31 rfl hl rfl rfl (Nat.le_of_ble_eq_true rfl) ⟨⟨rfl, rfl⟩, Nat.le_of_ble_eq_true rfl, Nat.le_of_ble_eq_true rfl⟩ ⟨by omega, by omega⟩ dL_law_481 (fun g11 z11 H locs hp hP hD hS => ?_)
  have hs11 := hp
  refine lv_icmp_le (tgt := 489) C.hx C.hb dL_law_484 (by decide) (fun _ => ?_) (fun c9 => absurd (zz_le.2 fle) c9)
  refine lv_goto (tgt := 1286) C.hx C.hb dL_law_489 (by decide) ?_
  refine W.widen (k := cells + 12) (n := slots + 72) (by omega) (by omega) ?_
  exact kk g11 z11 H locs ls (z 0) (z 2) hs11.2.2.2.2 hs11.2.1 hs11.2.2.2.1  hP hD hS (lv_sub hl [4, 5, 6, 7, 8] rfl)

set_option maxRecDepth 100000 in
set_option maxHeartbeats 4000000 in
theorem lp5_same0 {p : Program} {l : Launch} {e : Env} {s : State} {m : MethodId} {below : List Frame} {meth : Method} {c : Code} {b0 : Nat} {D : va_G} {cA : ClassId} {ad : Nat → Nat} {k cells slots : Nat} {Q : State → Prop} {g : Nat → Nat → Int32} {z : Nat → Nat} (C : lcx p l s m c cL_law 15 D cA (lwA s)) (hroom : cells + 12 ≤ room_1.cells ∧ slots + 72 ≤ room_1.slots) (hI : inv g z) {x w y t i : Nat} (hy : y < 2000000) (ht : t < 2000000) (hi : i < z 0) (hy2 : y % 2 = 0) (kj : (∀ (g : Nat → Nat → Int32) (z : Nat → Nat) (H : Heap) (locs : List Loc) (ls : Array Slot) (a b : Nat), inv g z → z 0 = a → z 2 = b → i < a → va_P D vwCl (rlW cA ad g z) H → va_D (lwA s) (rlW cA ad g z) → va_S (lwA s) s.heap H locs → lv_has ls 15 [(0, .ref b0), (1, .ref (ad 70)), (2, .int (nI a)), (3, .int (nI b)), (4, .int (nI k)), (7, .int (nI y)), (8, .int (nI t)), (9, .int (nI i))] → W p l e room_1 s m #[.ref b0] below meth c H locs (cells + 2) (slots + 12) Q (F0 m 594 ls []))) : ∀ (H : Heap) (locs : List Loc) (ls : Array Slot), va_P D vwCl (rlW cA ad g z) H → va_D (lwA s) (rlW cA ad g z) → va_S (lwA s) s.heap H locs → lv_has ls 15 [(0, .ref (b0)), (1, .ref (ad 70)), (2, .int (nI (z 0))), (3, .int (nI (z 2))), (4, .int (nI k)), (5, .int (nI x)), (6, .int (nI w)), (7, .int (nI y)), (8, .int (nI t)), (9, .int (nI i)), (10, .int (nI i))] → W p l e room_1 s m #[.ref b0] below meth c H locs cells slots Q (F0 m 498 ls []) := by
  intro H locs ls hP hD hS hl
  have hz0 := hI.hz0
  have hz2 := hI.hz2
  have hs := SRrf hI
  refine lv_aload_n C.hx C.hb dL_law_498 rfl (lv_at hl 1 rfl) ?_
  refine lv_bipush (v := nI 8) C.hx C.hb dL_law_499 (by decide +kernel) ?_
  refine lv_iload C.hx C.hb dL_law_501 (lv_at hl 7 rfl) ?_
  refine lv_iconst (v := nI 2) C.hx C.hb dL_law_503 (by decide +kernel) ?_
  refine lv_irem C.hx C.hb dL_law_504 (by decide +kernel) ?_
  refine q_top (y := nI (y % 2)) (pk_rem (by omega) (by omega) (by omega)) ?_
  refine lv_iadd C.hx C.hb dL_law_505 ?_
  refine q_top (y := nI 8) (by rw [hy2]; decide +kernel) ?_
  refine lv_iload C.hx C.hb dL_law_506 (lv_at hl 9 rfl) ?_
  refine lv_iload C.hx C.hb dL_law_508 (lv_at hl 10 rfl) ?_
  refine lv_iconst (v := nI 1) C.hx C.hb dL_law_510 (by decide +kernel) ?_
  refine lv_iconst (v := nI 0) C.hx C.hb dL_law_511 (by decide +kernel) ?_
  refine q_cB (w := 8) (p0 := nI i) (p1 := nI i) (p2 := nI 1) (p3 := nI 0) (r := -7000002) (c2 := cells + 1) (s2 := slots + 6) C hP hD hS (rs_seal C.htr (q_r_nI hi) g z hs) hl rfl (Nat.le_of_ble_eq_true rfl) ⟨Nat.le_of_ble_eq_true rfl, Nat.le_of_ble_eq_true rfl⟩ ⟨by omega, by omega⟩ ⟨by omega, by omega⟩ dL_law_512 (fun g2 z2 H locs hp hP hD hS => ?_)
  have hs2 := hp
  refine lv_istore (lv' := [(11, .int (-7000002)), (0, .ref (b0)), (1, .ref (ad 70)), (2, .int (nI (z 0))), (3, .int (nI (z 2))), (4, .int (nI k)), (5, .int (nI x)), (6, .int (nI w)), (7, .int (nI y)), (8, .int (nI t)), (9, .int (nI i)), (10, .int (nI i))]) C.hx C.hb dL_law_515 hl (by decide) rfl (fun ls hl => ?_)
  refine lv_iload C.hx C.hb dL_law_517 (lv_at hl 0 rfl) ?_
  refine lv_ldc (v := -7000002) C.hx C.hb C.hown (C.hT.use kk_L_93 _) dL_law_519 ?_
  refine lv_icmp_ne (tgt := 528) C.hx C.hb dL_law_521 (by decide) (fun c9 => absurd c9 (by decide +kernel)) (fun _ => ?_)
  refine lv_iconst (v := nI 1) C.hx C.hb dL_law_524 (by decide +kernel) ?_
  refine lv_goto (tgt := 529) C.hx C.hb dL_law_525 (by decide) ?_
  refine lv_iload C.hx C.hb dL_law_529 (lv_at hl 10 rfl) ?_
  refine lv_iload C.hx C.hb dL_law_531 (lv_at hl 11 rfl) ?_
  refine lv_icmp_ne (tgt := 540) C.hx C.hb dL_law_533 (by decide) (fun c9 => absurd rfl c9) (fun _ => ?_)
  refine lv_iconst (v := nI 1) C.hx C.hb dL_law_536 (by decide +kernel) ?_
  refine lv_goto (tgt := 541) C.hx C.hb dL_law_537 (by decide) ?_
  refine lv_icmp_ne (tgt := 592) C.hx C.hb dL_law_541 (by decide) (fun c9 => absurd c9 (by decide +kernel)) (fun _ => ?_)
  refine lv_iload C.hx C.hb dL_law_544 (lv_at hl 10 rfl) ?_
  refine lv_iload C.hx C.hb dL_law_546 (lv_at hl 11 rfl) ?_
  refine lv_icmp_eq (tgt := 594) C.hx C.hb dL_law_548 (by decide) (fun _ => ?_) (fun c9 => absurd rfl c9)
  refine W.widen (k := cells + 2) (n := slots + 12) (by omega) (by omega) ?_
  exact kj g2 z2 H locs ls (z 0) (z 2) hs2.2.2.2.2 hs2.2.1 hs2.2.2.2.1 hi hP hD hS (lv_sub hl [1, 2, 3, 4, 5, 8, 9, 10] rfl)

set_option maxRecDepth 100000 in
set_option maxHeartbeats 4000000 in
theorem lp5_diff0 {p : Program} {l : Launch} {e : Env} {s : State} {m : MethodId} {below : List Frame} {meth : Method} {c : Code} {b0 : Nat} {D : va_G} {cA : ClassId} {ad : Nat → Nat} {k cells slots : Nat} {Q : State → Prop} {g : Nat → Nat → Int32} {z : Nat → Nat} (C : lcx p l s m c cL_law 15 D cA (lwA s)) (hroom : cells + 12 ≤ room_1.cells ∧ slots + 72 ≤ room_1.slots) (hI : inv g z) {x w y t i j : Nat} (hy : y < 2000000) (ht : t < 2000000) (hi : i < z 0) (hj : j < z 0) (hij : ¬ i = j) (hy2 : y % 2 = 0) (kj : (∀ (g : Nat → Nat → Int32) (z : Nat → Nat) (H : Heap) (locs : List Loc) (ls : Array Slot) (a b : Nat), inv g z → z 0 = a → z 2 = b → i < a → va_P D vwCl (rlW cA ad g z) H → va_D (lwA s) (rlW cA ad g z) → va_S (lwA s) s.heap H locs → lv_has ls 15 [(0, .ref b0), (1, .ref (ad 70)), (2, .int (nI a)), (3, .int (nI b)), (4, .int (nI k)), (7, .int (nI y)), (8, .int (nI t)), (9, .int (nI i))] → W p l e room_1 s m #[.ref b0] below meth c H locs (cells + 2) (slots + 12) Q (F0 m 594 ls []))) : ∀ (H : Heap) (locs : List Loc) (ls : Array Slot), va_P D vwCl (rlW cA ad g z) H → va_D (lwA s) (rlW cA ad g z) → va_S (lwA s) s.heap H locs → lv_has ls 15 [(0, .ref (b0)), (1, .ref (ad 70)), (2, .int (nI (z 0))), (3, .int (nI (z 2))), (4, .int (nI k)), (5, .int (nI x)), (6, .int (nI w)), (7, .int (nI y)), (8, .int (nI t)), (9, .int (nI i)), (10, .int (nI j))] → W p l e room_1 s m #[.ref b0] below meth c H locs cells slots Q (F0 m 498 ls []) := by
  intro H locs ls hP hD hS hl
  have hz0 := hI.hz0
  have hz2 := hI.hz2
  have hs := SRrf hI
  refine lv_aload_n C.hx C.hb dL_law_498 rfl (lv_at hl 1 rfl) ?_
  refine lv_bipush (v := nI 8) C.hx C.hb dL_law_499 (by decide +kernel) ?_
  refine lv_iload C.hx C.hb dL_law_501 (lv_at hl 7 rfl) ?_
  refine lv_iconst (v := nI 2) C.hx C.hb dL_law_503 (by decide +kernel) ?_
  refine lv_irem C.hx C.hb dL_law_504 (by decide +kernel) ?_
  refine q_top (y := nI (y % 2)) (pk_rem (by omega) (by omega) (by omega)) ?_
  refine lv_iadd C.hx C.hb dL_law_505 ?_
  refine q_top (y := nI 8) (by rw [hy2]; decide +kernel) ?_
  refine lv_iload C.hx C.hb dL_law_506 (lv_at hl 9 rfl) ?_
  refine lv_iload C.hx C.hb dL_law_508 (lv_at hl 10 rfl) ?_
  refine lv_iconst (v := nI 1) C.hx C.hb dL_law_510 (by decide +kernel) ?_
  refine lv_iconst (v := nI 0) C.hx C.hb dL_law_511 (by decide +kernel) ?_
  refine q_cB (w := 8) (p0 := nI i) (p1 := nI j) (p2 := nI 1) (p3 := nI 0) (r := q_b (hasB (g 9 i) (nI j))) (c2 := cells + 1) (s2 := slots + 6) C hP hD hS (sm_seal hI hi hj hij (nI 1) (nI 0)) hl rfl (Nat.le_of_ble_eq_true rfl) ⟨Nat.le_of_ble_eq_true rfl, Nat.le_of_ble_eq_true rfl⟩ ⟨by omega, by omega⟩ ⟨by omega, by omega⟩ dL_law_512 (fun g2 z2 H locs hp hP hD hS => ?_)
  obtain ⟨hI2, e02, e22, f1⟩ := hp
  have f1 : hasB (g2 9 j) (nI i) = true := f1
  have hi2 : i < z2 0 := by rw [e02]; exact hi
  have hj2 : j < z2 0 := by rw [e02]; exact hj
  refine lv_istore (lv' := [(11, .int (q_b (hasB (g 9 i) (nI j)))), (0, .ref (b0)), (1, .ref (ad 70)), (2, .int (nI (z 0))), (3, .int (nI (z 2))), (4, .int (nI k)), (5, .int (nI x)), (6, .int (nI w)), (7, .int (nI y)), (8, .int (nI t)), (9, .int (nI i)), (10, .int (nI j))]) C.hx C.hb dL_law_515 hl (by decide) rfl (fun ls hl => ?_)
  refine lv_iload C.hx C.hb dL_law_517 (lv_at hl 0 rfl) ?_
  refine lv_ldc (v := -7000002) C.hx C.hb C.hown (C.hT.use kk_L_93 _) dL_law_519 ?_
  refine lv_icmp_ne (tgt := 528) C.hx C.hb dL_law_521 (by decide) (fun _ => ?_) (fun c9 => absurd c9 (qbne gI2 _))
  refine lv_iconst (v := nI 0) C.hx C.hb dL_law_528 (by decide +kernel) ?_
  refine lv_iload C.hx C.hb dL_law_529 (lv_at hl 10 rfl) ?_
  refine lv_iload C.hx C.hb dL_law_531 (lv_at hl 11 rfl) ?_
  refine lv_icmp_ne (tgt := 540) C.hx C.hb dL_law_533 (by decide) (fun _ => ?_) (fun c9 => absurd c9 (by rw [nI_eq (by omega) (by omega)]; omega))
  refine lv_iconst (v := nI 0) C.hx C.hb dL_law_540 (by decide +kernel) ?_
  refine lv_icmp_ne (tgt := 592) C.hx C.hb dL_law_541 (by decide) (fun c9 => absurd c9 (by decide +kernel)) (fun _ => ?_)
  refine lv_iload C.hx C.hb dL_law_544 (lv_at hl 10 rfl) ?_
  refine lv_iload C.hx C.hb dL_law_546 (lv_at hl 11 rfl) ?_
  refine lv_icmp_eq (tgt := 594) C.hx C.hb dL_law_548 (by decide) (fun c9 => absurd c9 (by rw [nI_eq (by omega) (by omega)]; omega)) (fun _ => ?_)
  refine lv_aload_n C.hx C.hb dL_law_551 rfl (lv_at hl 2 rfl) ?_
  refine lv_bipush (v := nI 8) C.hx C.hb dL_law_552 (by decide +kernel) ?_
  refine lv_iload C.hx C.hb dL_law_554 (lv_at hl 8 rfl) ?_
  refine lv_iconst (v := nI 2) C.hx C.hb dL_law_556 (by decide +kernel) ?_
  refine lv_irem C.hx C.hb dL_law_557 (by decide +kernel) ?_
  refine q_top (y := nI (y % 2)) (pk_rem (by omega) (by omega) (by omega)) ?_
  refine lv_iadd C.hx C.hb dL_law_558 ?_
  refine q_top (y := nI 8) (by rw [hy2]; decide +kernel) ?_
  refine lv_iload C.hx C.hb dL_law_559 (lv_at hl 11 rfl) ?_
  refine lv_iload C.hx C.hb dL_law_561 (lv_at hl 10 rfl) ?_
  refine lv_iconst (v := nI 1) C.hx C.hb dL_law_563 (by decide +kernel) ?_
  refine lv_iconst (v := nI 0) C.hx C.hb dL_law_564 (by decide +kernel) ?_
  refine q_cB (w := 8) (p0 := nI j) (p1 := nI i) (p2 := nI 1) (p3 := nI 0) (r := nI 1) (c2 := cells + 2) (s2 := slots + 12) C hP hD hS ((sm_seal hI2 hj2 hi2 (fun q => hij q.symm) (nI 1) (nI 0)).mono (by rw [f1]; rfl) (fun _ q => q)) hl rfl (Nat.le_of_ble_eq_true rfl) ⟨Nat.le_of_ble_eq_true rfl, Nat.le_of_ble_eq_true rfl⟩ ⟨by omega, by omega⟩ ⟨by omega, by omega⟩ dL_law_565 (fun g3 z3 H locs hp hP hD hS => ?_)
  obtain ⟨hI3, e03, e23, -⟩ := hp
  have e03 := e03.trans e02
  have e23 := e23.trans e22
  refine lv_iconst (v := nI 1) C.hx C.hb dL_law_568 (by decide +kernel) ?_
  refine lv_icmp_ne (tgt := 592) C.hx C.hb dL_law_569 (by decide) (fun c9 => absurd c9 (by decide +kernel)) (fun _ => ?_)
  refine lv_iload C.hx C.hb dL_law_572 (lv_at hl 8 rfl) ?_
  refine lv_iconst (v := nI 2) C.hx C.hb dL_law_574 (by decide +kernel) ?_
  refine lv_irem C.hx C.hb dL_law_575 (by decide +kernel) ?_
  refine q_top (y := nI (y % 2)) (pk_rem (by omega) (by omega) (by omega)) ?_
  refine lv_iconst (v := nI 1) C.hx C.hb dL_law_576 (by decide +kernel) ?_
  refine lv_icmp_ne (tgt := 594) C.hx C.hb dL_law_577 (by decide) (fun _ => ?_) (fun c9 => absurd c9 (by rw [nI_eq (by omega) (by omega)]; omega))
  refine W.widen (k := cells + 2) (n := slots + 12) (by omega) (by omega) ?_
  exact kj g3 z3 H locs ls (z 0) (z 2) hI3 e03 e23 hi hP hD hS (lv_sub hl [1, 2, 3, 4, 5, 8, 9, 10] rfl)

set_option maxRecDepth 100000 in
set_option maxHeartbeats 4000000 in
theorem lp5_same1 {p : Program} {l : Launch} {e : Env} {s : State} {m : MethodId} {below : List Frame} {meth : Method} {c : Code} {b0 : Nat} {D : va_G} {cA : ClassId} {ad : Nat → Nat} {k cells slots : Nat} {Q : State → Prop} {g : Nat → Nat → Int32} {z : Nat → Nat} (C : lcx p l s m c cL_law 15 D cA (lwA s)) (hroom : cells + 12 ≤ room_1.cells ∧ slots + 72 ≤ room_1.slots) (hI : inv g z) {x w y t i : Nat} (hy : y < 2000000) (ht : t < 2000000) (hi : i < z 0) (hy2 : y % 2 = 1) (kj : (∀ (g : Nat → Nat → Int32) (z : Nat → Nat) (H : Heap) (locs : List Loc) (ls : Array Slot) (a b : Nat), inv g z → z 0 = a → z 2 = b → i < a → va_P D vwCl (rlW cA ad g z) H → va_D (lwA s) (rlW cA ad g z) → va_S (lwA s) s.heap H locs → lv_has ls 15 [(0, .ref b0), (1, .ref (ad 70)), (2, .int (nI a)), (3, .int (nI b)), (4, .int (nI k)), (7, .int (nI y)), (8, .int (nI t)), (9, .int (nI i))] → W p l e room_1 s m #[.ref b0] below meth c H locs (cells + 2) (slots + 12) Q (F0 m 594 ls []))) : ∀ (H : Heap) (locs : List Loc) (ls : Array Slot), va_P D vwCl (rlW cA ad g z) H → va_D (lwA s) (rlW cA ad g z) → va_S (lwA s) s.heap H locs → lv_has ls 15 [(0, .ref (b0)), (1, .ref (ad 70)), (2, .int (nI (z 0))), (3, .int (nI (z 2))), (4, .int (nI k)), (5, .int (nI x)), (6, .int (nI w)), (7, .int (nI y)), (8, .int (nI t)), (9, .int (nI i)), (10, .int (nI i))] → W p l e room_1 s m #[.ref b0] below meth c H locs cells slots Q (F0 m 498 ls []) := by
  intro H locs ls hP hD hS hl
  have hz0 := hI.hz0
  have hz2 := hI.hz2
  have hs := SRrf hI
  refine lv_aload_n C.hx C.hb dL_law_498 rfl (lv_at hl 1 rfl) ?_
  refine lv_bipush (v := nI 8) C.hx C.hb dL_law_499 (by decide +kernel) ?_
  refine lv_iload C.hx C.hb dL_law_501 (lv_at hl 7 rfl) ?_
  refine lv_iconst (v := nI 2) C.hx C.hb dL_law_503 (by decide +kernel) ?_
  refine lv_irem C.hx C.hb dL_law_504 (by decide +kernel) ?_
  refine q_top (y := nI (y % 2)) (pk_rem (by omega) (by omega) (by omega)) ?_
  refine lv_iadd C.hx C.hb dL_law_505 ?_
  refine q_top (y := nI 9) (by rw [hy2]; decide +kernel) ?_
  refine lv_iload C.hx C.hb dL_law_506 (lv_at hl 9 rfl) ?_
  refine lv_iload C.hx C.hb dL_law_508 (lv_at hl 10 rfl) ?_
  refine lv_iconst (v := nI 1) C.hx C.hb dL_law_510 (by decide +kernel) ?_
  refine lv_iconst (v := nI 0) C.hx C.hb dL_law_511 (by decide +kernel) ?_
  refine q_cB (w := 9) (p0 := nI i) (p1 := nI i) (p2 := nI 1) (p3 := nI 0) (r := -7000002) (c2 := cells + 1) (s2 := slots + 6) C hP hD hS (rs_block C.htr (q_r_nI hi) g z hs) hl rfl (Nat.le_of_ble_eq_true rfl) ⟨Nat.le_of_ble_eq_true rfl, Nat.le_of_ble_eq_true rfl⟩ ⟨by omega, by omega⟩ ⟨by omega, by omega⟩ dL_law_512 (fun g2 z2 H locs hp hP hD hS => ?_)
  have hs2 := hp
  refine lv_istore (lv' := [(11, .int (-7000002)), (0, .ref (b0)), (1, .ref (ad 70)), (2, .int (nI (z 0))), (3, .int (nI (z 2))), (4, .int (nI k)), (5, .int (nI x)), (6, .int (nI w)), (7, .int (nI y)), (8, .int (nI t)), (9, .int (nI i)), (10, .int (nI i))]) C.hx C.hb dL_law_515 hl (by decide) rfl (fun ls hl => ?_)
  refine lv_iload C.hx C.hb dL_law_517 (lv_at hl 0 rfl) ?_
  refine lv_ldc (v := -7000002) C.hx C.hb C.hown (C.hT.use kk_L_93 _) dL_law_519 ?_
  refine lv_icmp_ne (tgt := 528) C.hx C.hb dL_law_521 (by decide) (fun c9 => absurd c9 (by decide +kernel)) (fun _ => ?_)
  refine lv_iconst (v := nI 1) C.hx C.hb dL_law_524 (by decide +kernel) ?_
  refine lv_goto (tgt := 529) C.hx C.hb dL_law_525 (by decide) ?_
  refine lv_iload C.hx C.hb dL_law_529 (lv_at hl 10 rfl) ?_
  refine lv_iload C.hx C.hb dL_law_531 (lv_at hl 11 rfl) ?_
  refine lv_icmp_ne (tgt := 540) C.hx C.hb dL_law_533 (by decide) (fun c9 => absurd rfl c9) (fun _ => ?_)
  refine lv_iconst (v := nI 1) C.hx C.hb dL_law_536 (by decide +kernel) ?_
  refine lv_goto (tgt := 541) C.hx C.hb dL_law_537 (by decide) ?_
  refine lv_icmp_ne (tgt := 592) C.hx C.hb dL_law_541 (by decide) (fun c9 => absurd c9 (by decide +kernel)) (fun _ => ?_)
  refine lv_iload C.hx C.hb dL_law_544 (lv_at hl 10 rfl) ?_
  refine lv_iload C.hx C.hb dL_law_546 (lv_at hl 11 rfl) ?_
  refine lv_icmp_eq (tgt := 594) C.hx C.hb dL_law_548 (by decide) (fun _ => ?_) (fun c9 => absurd rfl c9)
  refine W.widen (k := cells + 2) (n := slots + 12) (by omega) (by omega) ?_
  exact kj g2 z2 H locs ls (z 0) (z 2) hs2.2.2.2.2 hs2.2.1 hs2.2.2.2.1 hi hP hD hS (lv_sub hl [1, 2, 3, 4, 5, 8, 9, 10] rfl)

set_option maxRecDepth 100000 in
set_option maxHeartbeats 4000000 in
theorem lp5_diff1 {p : Program} {l : Launch} {e : Env} {s : State} {m : MethodId} {below : List Frame} {meth : Method} {c : Code} {b0 : Nat} {D : va_G} {cA : ClassId} {ad : Nat → Nat} {k cells slots : Nat} {Q : State → Prop} {g : Nat → Nat → Int32} {z : Nat → Nat} (C : lcx p l s m c cL_law 15 D cA (lwA s)) (hroom : cells + 12 ≤ room_1.cells ∧ slots + 72 ≤ room_1.slots) (hI : inv g z) {x w y t i j : Nat} (hy : y < 2000000) (ht : t < 2000000) (hi : i < z 0) (hj : j < z 0) (hij : ¬ i = j) (hy2 : y % 2 = 1) (kj : (∀ (g : Nat → Nat → Int32) (z : Nat → Nat) (H : Heap) (locs : List Loc) (ls : Array Slot) (a b : Nat), inv g z → z 0 = a → z 2 = b → i < a → va_P D vwCl (rlW cA ad g z) H → va_D (lwA s) (rlW cA ad g z) → va_S (lwA s) s.heap H locs → lv_has ls 15 [(0, .ref b0), (1, .ref (ad 70)), (2, .int (nI a)), (3, .int (nI b)), (4, .int (nI k)), (7, .int (nI y)), (8, .int (nI t)), (9, .int (nI i))] → W p l e room_1 s m #[.ref b0] below meth c H locs (cells + 2) (slots + 12) Q (F0 m 594 ls []))) : ∀ (H : Heap) (locs : List Loc) (ls : Array Slot), va_P D vwCl (rlW cA ad g z) H → va_D (lwA s) (rlW cA ad g z) → va_S (lwA s) s.heap H locs → lv_has ls 15 [(0, .ref (b0)), (1, .ref (ad 70)), (2, .int (nI (z 0))), (3, .int (nI (z 2))), (4, .int (nI k)), (5, .int (nI x)), (6, .int (nI w)), (7, .int (nI y)), (8, .int (nI t)), (9, .int (nI i)), (10, .int (nI j))] → W p l e room_1 s m #[.ref b0] below meth c H locs cells slots Q (F0 m 498 ls []) := by
  intro H locs ls hP hD hS hl
  have hz0 := hI.hz0
  have hz2 := hI.hz2
  have hs := SRrf hI
  refine lv_aload_n C.hx C.hb dL_law_498 rfl (lv_at hl 1 rfl) ?_
  refine lv_bipush (v := nI 8) C.hx C.hb dL_law_499 (by decide +kernel) ?_
  refine lv_iload C.hx C.hb dL_law_501 (lv_at hl 7 rfl) ?_
  refine lv_iconst (v := nI 2) C.hx C.hb dL_law_503 (by decide +kernel) ?_
  refine lv_irem C.hx C.hb dL_law_504 (by decide +kernel) ?_
  refine q_top (y := nI (y % 2)) (pk_rem (by omega) (by omega) (by omega)) ?_
  refine lv_iadd C.hx C.hb dL_law_505 ?_
  refine q_top (y := nI 9) (by rw [hy2]; decide +kernel) ?_
  refine lv_iload C.hx C.hb dL_law_506 (lv_at hl 9 rfl) ?_
  refine lv_iload C.hx C.hb dL_law_508 (lv_at hl 10 rfl) ?_
  refine lv_iconst (v := nI 1) C.hx C.hb dL_law_510 (by decide +kernel) ?_
  refine lv_iconst (v := nI 0) C.hx C.hb dL_law_511 (by decide +kernel) ?_
  refine q_cB (w := 9) (p0 := nI i) (p1 := nI j) (p2 := nI 1) (p3 := nI 0) (r := q_b (hasB (g 10 i) (nI j))) (c2 := cells + 1) (s2 := slots + 6) C hP hD hS (sm_block hI hi hj hij (nI 0)) hl rfl (Nat.le_of_ble_eq_true rfl) ⟨Nat.le_of_ble_eq_true rfl, Nat.le_of_ble_eq_true rfl⟩ ⟨by omega, by omega⟩ ⟨by omega, by omega⟩ dL_law_512 (fun g2 z2 H locs hp hP hD hS => ?_)
  obtain ⟨hI2, e02, e22, ⟨f0, f1⟩⟩ := hp
  have hi2 : i < z2 0 := by rw [e02]; exact hi
  have hj2 : j < z2 0 := by rw [e02]; exact hj
  refine lv_istore (lv' := [(11, .int (q_b (hasB (g 10 i) (nI j)))), (0, .ref (b0)), (1, .ref (ad 70)), (2, .int (nI (z 0))), (3, .int (nI (z 2))), (4, .int (nI k)), (5, .int (nI x)), (6, .int (nI w)), (7, .int (nI y)), (8, .int (nI t)), (9, .int (nI i)), (10, .int (nI j))]) C.hx C.hb dL_law_515 hl (by decide) rfl (fun ls hl => ?_)
  refine lv_iload C.hx C.hb dL_law_517 (lv_at hl 0 rfl) ?_
  refine lv_ldc (v := -7000002) C.hx C.hb C.hown (C.hT.use kk_L_93 _) dL_law_519 ?_
  refine lv_icmp_ne (tgt := 528) C.hx C.hb dL_law_521 (by decide) (fun _ => ?_) (fun c9 => absurd c9 (qbne gI2 _))
  refine lv_iconst (v := nI 0) C.hx C.hb dL_law_528 (by decide +kernel) ?_
  refine lv_iload C.hx C.hb dL_law_529 (lv_at hl 10 rfl) ?_
  refine lv_iload C.hx C.hb dL_law_531 (lv_at hl 11 rfl) ?_
  refine lv_icmp_ne (tgt := 540) C.hx C.hb dL_law_533 (by decide) (fun _ => ?_) (fun c9 => absurd c9 (by rw [nI_eq (by omega) (by omega)]; omega))
  refine lv_iconst (v := nI 0) C.hx C.hb dL_law_540 (by decide +kernel) ?_
  refine lv_icmp_ne (tgt := 592) C.hx C.hb dL_law_541 (by decide) (fun c9 => absurd c9 (by decide +kernel)) (fun _ => ?_)
  refine lv_iload C.hx C.hb dL_law_544 (lv_at hl 10 rfl) ?_
  refine lv_iload C.hx C.hb dL_law_546 (lv_at hl 11 rfl) ?_
  refine lv_icmp_eq (tgt := 594) C.hx C.hb dL_law_548 (by decide) (fun c9 => absurd c9 (by rw [nI_eq (by omega) (by omega)]; omega)) (fun _ => ?_)
  refine lv_aload_n C.hx C.hb dL_law_551 rfl (lv_at hl 2 rfl) ?_
  refine lv_bipush (v := nI 8) C.hx C.hb dL_law_552 (by decide +kernel) ?_
  refine lv_iload C.hx C.hb dL_law_554 (lv_at hl 8 rfl) ?_
  refine lv_iconst (v := nI 2) C.hx C.hb dL_law_556 (by decide +kernel) ?_
  refine lv_irem C.hx C.hb dL_law_557 (by decide +kernel) ?_
  refine q_top (y := nI (y % 2)) (pk_rem (by omega) (by omega) (by omega)) ?_
  refine lv_iadd C.hx C.hb dL_law_558 ?_
  refine q_top (y := nI 9) (by rw [hy2]; decide +kernel) ?_
  refine lv_iload C.hx C.hb dL_law_559 (lv_at hl 11 rfl) ?_
  refine lv_iload C.hx C.hb dL_law_561 (lv_at hl 10 rfl) ?_
  refine lv_iconst (v := nI 1) C.hx C.hb dL_law_563 (by decide +kernel) ?_
  refine lv_iconst (v := nI 0) C.hx C.hb dL_law_564 (by decide +kernel) ?_
  refine q_cB (w := 9) (p0 := nI j) (p1 := nI i) (p2 := nI 1) (p3 := nI 0) (r := nI 1) (c2 := cells + 2) (s2 := slots + 12) C hP hD hS ((sm_block hI2 hj2 hi2 (fun q => hij q.symm) (nI 0)).mono (by rw [f1]; rfl) (fun _ q => q)) hl rfl (Nat.le_of_ble_eq_true rfl) ⟨Nat.le_of_ble_eq_true rfl, Nat.le_of_ble_eq_true rfl⟩ ⟨by omega, by omega⟩ ⟨by omega, by omega⟩ dL_law_565 (fun g3 z3 H locs hp hP hD hS => ?_)
  obtain ⟨hI3, e03, e23, ⟨f3, f4⟩⟩ := hp
  have e03 := e03.trans e02
  have e23 := e23.trans e22
  have hi3 : i < z3 0 := by rw [e03]; exact hi
  have hj3 : j < z3 0 := by rw [e03]; exact hj
  have hra := raG_blk (g := g3) (n := z3 0) hi3 hj3 f4
  refine lv_iconst (v := nI 1) C.hx C.hb dL_law_568 (by decide +kernel) ?_
  refine lv_icmp_ne (tgt := 592) C.hx C.hb dL_law_569 (by decide) (fun c9 => absurd c9 (by decide +kernel)) (fun _ => ?_)
  refine lv_iload C.hx C.hb dL_law_572 (lv_at hl 8 rfl) ?_
  refine lv_iconst (v := nI 2) C.hx C.hb dL_law_574 (by decide +kernel) ?_
  refine lv_irem C.hx C.hb dL_law_575 (by decide +kernel) ?_
  refine q_top (y := nI (y % 2)) (pk_rem (by omega) (by omega) (by omega)) ?_
  refine lv_iconst (v := nI 1) C.hx C.hb dL_law_576 (by decide +kernel) ?_
  refine lv_icmp_ne (tgt := 594) C.hx C.hb dL_law_577 (by decide) (fun c9 => absurd c9 (by rw [nI_eq (by omega) (by omega)]; omega)) (fun _ => ?_)
  refine lv_aload_n C.hx C.hb dL_law_580 rfl (lv_at hl 2 rfl) ?_
  refine lv_iload C.hx C.hb dL_law_581 (lv_at hl 10 rfl) ?_
  refine lv_iload C.hx C.hb dL_law_583 (lv_at hl 11 rfl) ?_
  refine q_cE (r := nI (raG g3 (z3 0) i j)) (As := [.int (nI i), .int (nI j)]) C hP hD hS (c_X5_whyNot l D cA ad g3 z3 i j hi3 hj3 hI3.hz0 hij) k_X5_whyNot kl_L_48 rfl hl rfl rfl (Nat.le_of_ble_eq_true rfl) ⟨⟨rfl, rfl⟩, Nat.le_of_ble_eq_true rfl, Nat.le_of_ble_eq_true rfl⟩ ⟨by omega, by omega⟩ dL_law_585 (fun H locs hP hD hS => ?_)
  refine lv_iconst (v := nI 2) C.hx C.hb dL_law_588 (by decide +kernel) ?_
  refine lv_icmp_le (tgt := 594) C.hx C.hb dL_law_589 (by decide) (fun _ => ?_) (fun c9 => absurd c9 (by rw [nI_leI (by omega) (by omega)]; omega))
  refine W.widen (k := cells + 2) (n := slots + 12) (by omega) (by omega) ?_
  exact kj g3 z3 H locs ls (z 0) (z 2) hI3 e03 e23 hi hP hD hS (lv_sub hl [1, 2, 3, 4, 5, 8, 9, 10] rfl)

set_option maxRecDepth 100000 in
set_option maxHeartbeats 4000000 in
theorem lp5b_same {p : Program} {l : Launch} {e : Env} {s : State} {m : MethodId} {below : List Frame} {meth : Method} {c : Code} {b0 : Nat} {D : va_G} {cA : ClassId} {ad : Nat → Nat} {k cells slots : Nat} {Q : State → Prop} {g : Nat → Nat → Int32} {z : Nat → Nat} (C : lcx p l s m c cL_law 15 D cA (lwA s)) (hroom : cells + 10 ≤ room_1.cells ∧ slots + 60 ≤ room_1.slots) (hI : inv g z) {y t i : Nat} (hy : y < 2000000) (ht : t < 2000000) (hi : i < z 0) (hpq : y % 8 = t % 8) (kk : LK p l e s m below meth c b0 D cA ad k (cells + 10) (slots + 60) Q 1286) : ∀ (H : Heap) (locs : List Loc) (ls : Array Slot), va_P D vwCl (rlW cA ad g z) H → va_D (lwA s) (rlW cA ad g z) → va_S (lwA s) s.heap H locs → lv_has ls 15 [(0, .ref (b0)), (1, .ref (ad 70)), (2, .int (nI (z 0))), (3, .int (nI (z 2))), (4, .int (nI k)), (7, .int (nI y)), (8, .int (nI t)), (9, .int (nI i))] → W p l e room_1 s m #[.ref b0] below meth c H locs cells slots Q (F0 m 594 ls []) := by
  intro H locs ls hP hD hS hl
  have hz0 := hI.hz0
  have hz2 := hI.hz2
  have hs := SRrf hI
  refine lv_aload_n C.hx C.hb dL_law_594 rfl (lv_at hl 1 rfl) ?_
  refine lv_iload C.hx C.hb dL_law_595 (lv_at hl 5 rfl) ?_
  refine lv_bipush (v := nI 8) C.hx C.hb dL_law_597 (by decide +kernel) ?_
  refine lv_irem C.hx C.hb dL_law_599 (by decide +kernel) ?_
  refine q_top (y := nI (y % 8)) (pk_rem (by omega) (by omega) (by omega)) ?_
  refine lv_iload C.hx C.hb dL_law_600 (lv_at hl 6 rfl) ?_
  refine lv_bipush (v := nI 10) C.hx C.hb dL_law_602 (by decide +kernel) ?_
  refine lv_irem C.hx C.hb dL_law_604 (by decide +kernel) ?_
  refine q_top (y := nI (t % 10)) (pk_rem (by omega) (by omega) (by omega)) ?_
  refine q_cQ (r := g 5 (y % 8)) (As := [.int (nI (y % 8)), .int (nI (t % 10))]) C hP hD hS (sm_rank hI (Nat.mod_lt _ (by omega)) (rkR (Nat.mod_lt _ (by omega)))) k_X5_rank kl_L_13 rfl hl rfl rfl (Nat.le_of_ble_eq_true rfl) ⟨⟨rfl, rfl⟩, Nat.le_of_ble_eq_true rfl, Nat.le_of_ble_eq_true rfl⟩ ⟨by omega, by omega⟩ dL_law_605 (fun g2 z2 H locs hp hP hD hS => ?_)
  obtain ⟨hI2, e02, e22, -⟩ := hp
  have hs2 : SR g2 (z 0) (z2 1) (z 2) g2 z2 := by have q := SRrf hI2; rw [e02, e22] at q; exact q
  refine lv_bipush (v := nI 9) C.hx C.hb dL_law_608 (by decide +kernel) ?_
  refine lv_icmp_gt (tgt := 656) C.hx C.hb dL_law_610 (by decide) (fun c9 => absurd c9 (Int32.not_lt.mpr (hI.2.2.1.1 _))) (fun _ => ?_)
  refine lv_aload_n C.hx C.hb dL_law_613 rfl (lv_at hl 1 rfl) ?_
  refine lv_iconst (v := nI 2) C.hx C.hb dL_law_614 (by decide +kernel) ?_
  refine lv_iload C.hx C.hb dL_law_615 (lv_at hl 5 rfl) ?_
  refine lv_bipush (v := nI 8) C.hx C.hb dL_law_617 (by decide +kernel) ?_
  refine lv_irem C.hx C.hb dL_law_619 (by decide +kernel) ?_
  refine q_top (y := nI (y % 8)) (pk_rem (by omega) (by omega) (by omega)) ?_
  refine lv_iload C.hx C.hb dL_law_620 (lv_at hl 6 rfl) ?_
  refine lv_bipush (v := nI 8) C.hx C.hb dL_law_622 (by decide +kernel) ?_
  refine lv_irem C.hx C.hb dL_law_624 (by decide +kernel) ?_
  refine q_top (y := nI (y % 8)) (by rw [hpq]; exact pk_rem (by omega) (by omega) (by omega)) ?_
  refine lv_iload C.hx C.hb dL_law_625 (lv_at hl 5 rfl) ?_
  refine lv_iconst (v := nI 2) C.hx C.hb dL_law_627 (by decide +kernel) ?_
  refine lv_irem C.hx C.hb dL_law_628 (by decide +kernel) ?_
  refine q_top (y := nI (y % 2)) (pk_rem (by omega) (by omega) (by omega)) ?_
  refine lv_iconst (v := nI 0) C.hx C.hb dL_law_629 (by decide +kernel) ?_
  refine q_cB (w := 2) (p0 := nI (y % 8)) (p1 := nI (y % 8)) (p2 := nI (y % 2)) (p3 := nI 0) (r := -7000002) (c2 := cells + 1) (s2 := slots + 6) C hP hD hS (rb_3 C.htr (q_r_nI (Nat.mod_lt _ (by omega))) g2 z2 hs2) hl rfl (Nat.le_of_ble_eq_true rfl) ⟨Nat.le_of_ble_eq_true rfl, Nat.le_of_ble_eq_true rfl⟩ ⟨by omega, by omega⟩ ⟨by omega, by omega⟩ dL_law_630 (fun g3 z3 H locs hp hP hD hS => ?_)
  have hs3 := hp
  have hI3 := hs3.2.2.2.2
  have e03 := hs3.2.1
  have e23 := hs3.2.2.2.1
  have hi3 : i < z3 0 := by rw [e03]; exact hi
  refine lv_ldc (v := -7000003) C.hx C.hb C.hown (C.hT.use kk_L_96 _) dL_law_633 ?_
  refine lv_icmp_eq (tgt := 656) C.hx C.hb dL_law_635 (by decide) (fun c9 => absurd c9 (by decide +kernel)) (fun _ => ?_)
  refine lv_aload_n C.hx C.hb dL_law_638 rfl (lv_at hl 1 rfl) ?_
  refine lv_iload C.hx C.hb dL_law_639 (lv_at hl 7 rfl) ?_
  refine lv_iload C.hx C.hb dL_law_641 (lv_at hl 6 rfl) ?_
  refine lv_bipush (v := nI 17) C.hx C.hb dL_law_643 (by decide +kernel) ?_
  refine lv_irem C.hx C.hb dL_law_645 (by decide +kernel) ?_
  refine q_top (y := nI (t % 17)) (pk_rem (by omega) (by omega) (by omega)) ?_
  refine lv_iconst (v := nI 1) C.hx C.hb dL_law_646 (by decide +kernel) ?_
  refine lv_isub C.hx C.hb dL_law_647 ?_
  refine q_cQ (r := g3 4 i) (As := [.int (nI i), .int (nI (t % 17) - nI 1)]) C hP hD hS (sm_rival hI3 hi3 (lbR (Nat.mod_lt _ (by omega)))) k_X5_rival kl_L_85 rfl hl rfl rfl (Nat.le_of_ble_eq_true rfl) ⟨⟨rfl, rfl⟩, Nat.le_of_ble_eq_true rfl, Nat.le_of_ble_eq_true rfl⟩ ⟨by omega, by omega⟩ dL_law_648 (fun g4 z4 H locs hp hP hD hS => ?_)
  obtain ⟨hI4, e04, e24, -⟩ := hp
  have e04 := e04.trans e03
  have e24 := e24.trans e23
  refine lv_bipush (v := nI 15) C.hx C.hb dL_law_651 (by decide +kernel) ?_
  refine lv_icmp_le (tgt := 658) C.hx C.hb dL_law_653 (by decide) (fun _ => ?_) (fun c9 => absurd (hI3.2.2.1.2 _) c9)
  refine lv_goto (tgt := 1286) C.hx C.hb dL_law_658 (by decide) ?_
  refine W.widen (k := cells + 10) (n := slots + 60) (by omega) (by omega) ?_
  exact kk g4 z4 H locs ls (z 0) (z 2) hI4 e04 e24  hP hD hS (lv_sub hl [0, 1, 2, 3, 4] rfl)

set_option maxRecDepth 100000 in
set_option maxHeartbeats 4000000 in
theorem lp5b_diff {p : Program} {l : Launch} {e : Env} {s : State} {m : MethodId} {below : List Frame} {meth : Method} {c : Code} {b0 : Nat} {D : va_G} {cA : ClassId} {ad : Nat → Nat} {k cells slots : Nat} {Q : State → Prop} {g : Nat → Nat → Int32} {z : Nat → Nat} (C : lcx p l s m c cL_law 15 D cA (lwA s)) (hroom : cells + 10 ≤ room_1.cells ∧ slots + 60 ≤ room_1.slots) (hI : inv g z) {y t i : Nat} (hy : y < 2000000) (ht : t < 2000000) (hi : i < z 0) (hpq : ¬ y % 8 = t % 8) (kk : LK p l e s m below meth c b0 D cA ad k (cells + 10) (slots + 60) Q 1286) : ∀ (H : Heap) (locs : List Loc) (ls : Array Slot), va_P D vwCl (rlW cA ad g z) H → va_D (lwA s) (rlW cA ad g z) → va_S (lwA s) s.heap H locs → lv_has ls 15 [(0, .ref (b0)), (1, .ref (ad 70)), (2, .int (nI (z 0))), (3, .int (nI (z 2))), (4, .int (nI k)), (7, .int (nI y)), (8, .int (nI t)), (9, .int (nI i))] → W p l e room_1 s m #[.ref b0] below meth c H locs cells slots Q (F0 m 594 ls []) := by
  intro H locs ls hP hD hS hl
  have hz0 := hI.hz0
  have hz2 := hI.hz2
  have hs := SRrf hI
  refine lv_aload_n C.hx C.hb dL_law_594 rfl (lv_at hl 1 rfl) ?_
  refine lv_iload C.hx C.hb dL_law_595 (lv_at hl 5 rfl) ?_
  refine lv_bipush (v := nI 8) C.hx C.hb dL_law_597 (by decide +kernel) ?_
  refine lv_irem C.hx C.hb dL_law_599 (by decide +kernel) ?_
  refine q_top (y := nI (y % 8)) (pk_rem (by omega) (by omega) (by omega)) ?_
  refine lv_iload C.hx C.hb dL_law_600 (lv_at hl 6 rfl) ?_
  refine lv_bipush (v := nI 10) C.hx C.hb dL_law_602 (by decide +kernel) ?_
  refine lv_irem C.hx C.hb dL_law_604 (by decide +kernel) ?_
  refine q_top (y := nI (t % 10)) (pk_rem (by omega) (by omega) (by omega)) ?_
  refine q_cQ (r := g 5 (y % 8)) (As := [.int (nI (y % 8)), .int (nI (t % 10))]) C hP hD hS (sm_rank hI (Nat.mod_lt _ (by omega)) (rkR (Nat.mod_lt _ (by omega)))) k_X5_rank kl_L_13 rfl hl rfl rfl (Nat.le_of_ble_eq_true rfl) ⟨⟨rfl, rfl⟩, Nat.le_of_ble_eq_true rfl, Nat.le_of_ble_eq_true rfl⟩ ⟨by omega, by omega⟩ dL_law_605 (fun g2 z2 H locs hp hP hD hS => ?_)
  obtain ⟨hI2, e02, e22, -⟩ := hp
  have hs2 : SR g2 (z 0) (z2 1) (z 2) g2 z2 := by have q := SRrf hI2; rw [e02, e22] at q; exact q
  refine lv_bipush (v := nI 9) C.hx C.hb dL_law_608 (by decide +kernel) ?_
  refine lv_icmp_gt (tgt := 656) C.hx C.hb dL_law_610 (by decide) (fun c9 => absurd c9 (Int32.not_lt.mpr (hI.2.2.1.1 _))) (fun _ => ?_)
  refine lv_aload_n C.hx C.hb dL_law_613 rfl (lv_at hl 1 rfl) ?_
  refine lv_iconst (v := nI 2) C.hx C.hb dL_law_614 (by decide +kernel) ?_
  refine lv_iload C.hx C.hb dL_law_615 (lv_at hl 5 rfl) ?_
  refine lv_bipush (v := nI 8) C.hx C.hb dL_law_617 (by decide +kernel) ?_
  refine lv_irem C.hx C.hb dL_law_619 (by decide +kernel) ?_
  refine q_top (y := nI (y % 8)) (pk_rem (by omega) (by omega) (by omega)) ?_
  refine lv_iload C.hx C.hb dL_law_620 (lv_at hl 6 rfl) ?_
  refine lv_bipush (v := nI 8) C.hx C.hb dL_law_622 (by decide +kernel) ?_
  refine lv_irem C.hx C.hb dL_law_624 (by decide +kernel) ?_
  refine q_top (y := nI (t % 8)) (pk_rem (by omega) (by omega) (by omega)) ?_
  refine lv_iload C.hx C.hb dL_law_625 (lv_at hl 5 rfl) ?_
  refine lv_iconst (v := nI 2) C.hx C.hb dL_law_627 (by decide +kernel) ?_
  refine lv_irem C.hx C.hb dL_law_628 (by decide +kernel) ?_
  refine q_top (y := nI (y % 2)) (pk_rem (by omega) (by omega) (by omega)) ?_
  refine lv_iconst (v := nI 0) C.hx C.hb dL_law_629 (by decide +kernel) ?_
  refine q_cB (w := 2) (p0 := nI (y % 8)) (p1 := nI (t % 8)) (p2 := nI (y % 2)) (p3 := nI 0) (r := q_b (hasB (g2 8 (y % 8)) (nI (t % 8)))) (c2 := cells + 1) (s2 := slots + 6) C hP hD hS (sm_bar hI2 (Nat.mod_lt _ (by omega)) (Nat.mod_lt _ (by omega)) hpq (nI (y % 2)) (nI 0)) hl rfl (Nat.le_of_ble_eq_true rfl) ⟨Nat.le_of_ble_eq_true rfl, Nat.le_of_ble_eq_true rfl⟩ ⟨by omega, by omega⟩ ⟨by omega, by omega⟩ dL_law_630 (fun g3 z3 H locs hp hP hD hS => ?_)
  obtain ⟨hI3, e03, e23, -⟩ := hp
  have e03 := e03.trans e02
  have e23 := e23.trans e22
  have hi3 : i < z3 0 := by rw [e03]; exact hi
  refine lv_ldc (v := -7000003) C.hx C.hb C.hown (C.hT.use kk_L_96 _) dL_law_633 ?_
  refine lv_icmp_eq (tgt := 656) C.hx C.hb dL_law_635 (by decide) (fun c9 => absurd c9 (qbne gI3 _)) (fun _ => ?_)
  refine lv_aload_n C.hx C.hb dL_law_638 rfl (lv_at hl 1 rfl) ?_
  refine lv_iload C.hx C.hb dL_law_639 (lv_at hl 7 rfl) ?_
  refine lv_iload C.hx C.hb dL_law_641 (lv_at hl 6 rfl) ?_
  refine lv_bipush (v := nI 17) C.hx C.hb dL_law_643 (by decide +kernel) ?_
  refine lv_irem C.hx C.hb dL_law_645 (by decide +kernel) ?_
  refine q_top (y := nI (t % 17)) (pk_rem (by omega) (by omega) (by omega)) ?_
  refine lv_iconst (v := nI 1) C.hx C.hb dL_law_646 (by decide +kernel) ?_
  refine lv_isub C.hx C.hb dL_law_647 ?_
  refine q_cQ (r := g3 4 i) (As := [.int (nI i), .int (nI (t % 17) - nI 1)]) C hP hD hS (sm_rival hI3 hi3 (lbR (Nat.mod_lt _ (by omega)))) k_X5_rival kl_L_85 rfl hl rfl rfl (Nat.le_of_ble_eq_true rfl) ⟨⟨rfl, rfl⟩, Nat.le_of_ble_eq_true rfl, Nat.le_of_ble_eq_true rfl⟩ ⟨by omega, by omega⟩ dL_law_648 (fun g4 z4 H locs hp hP hD hS => ?_)
  obtain ⟨hI4, e04, e24, -⟩ := hp
  have e04 := e04.trans e03
  have e24 := e24.trans e23
  refine lv_bipush (v := nI 15) C.hx C.hb dL_law_651 (by decide +kernel) ?_
  refine lv_icmp_le (tgt := 658) C.hx C.hb dL_law_653 (by decide) (fun _ => ?_) (fun c9 => absurd (hI3.2.2.1.2 _) c9)
  refine lv_goto (tgt := 1286) C.hx C.hb dL_law_658 (by decide) ?_
  refine W.widen (k := cells + 10) (n := slots + 60) (by omega) (by omega) ?_
  exact kk g4 z4 H locs ls (z 0) (z 2) hI4 e04 e24  hP hD hS (lv_sub hl [0, 1, 2, 3, 4] rfl)

set_option maxRecDepth 100000 in
set_option maxHeartbeats 4000000 in
theorem lp6_same {p : Program} {l : Launch} {e : Env} {s : State} {m : MethodId} {below : List Frame} {meth : Method} {c : Code} {b0 : Nat} {D : va_G} {cA : ClassId} {ad : Nat → Nat} {k cells slots : Nat} {Q : State → Prop} {g : Nat → Nat → Int32} {z : Nat → Nat} (C : lcx p l s m c cL_law 15 D cA (lwA s)) (hroom : cells + 12 ≤ room_1.cells ∧ slots + 72 ≤ room_1.slots) (hI : inv g z) {x w y t i : Nat} (hy : y < 2000000) (ht : t < 2000000) (hi : i < z 0) (kk5 : LK p l e s m below meth c b0 D cA ad k (cells + 12) (slots + 72) Q 1305) : ∀ (H : Heap) (locs : List Loc) (ls : Array Slot), va_P D vwCl (rlW cA ad g z) H → va_D (lwA s) (rlW cA ad g z) → va_S (lwA s) s.heap H locs → lv_has ls 15 [(0, .ref (b0)), (1, .ref (ad 70)), (2, .int (nI (z 0))), (3, .int (nI (z 2))), (4, .int (nI k)), (5, .int (nI x)), (6, .int (nI w)), (7, .int (nI y)), (8, .int (nI t)), (9, .int (nI i)), (10, .int (nI i))] → W p l e room_1 s m #[.ref b0] below meth c H locs cells slots Q (F0 m 668 ls []) := by
  intro H locs ls hP hD hS hl
  have hz0 := hI.hz0
  have hz2 := hI.hz2
  have hs := SRrf hI
  refine lv_iload C.hx C.hb dL_law_668 (lv_at hl 9 rfl) ?_
  refine lv_iload C.hx C.hb dL_law_670 (lv_at hl 10 rfl) ?_
  refine lv_icmp_ne (tgt := 678) C.hx C.hb dL_law_672 (by decide) (fun c9 => absurd rfl c9) (fun _ => ?_)
  refine lv_goto (tgt := 1305) C.hx C.hb dL_law_675 (by decide) ?_
  refine W.widen (k := cells + 12) (n := slots + 72) (by omega) (by omega) ?_
  exact kk5 g z H locs ls (z 0) (z 2) hI rfl rfl  hP hD hS (lv_sub hl [0, 1, 2, 3, 4] rfl)

set_option maxRecDepth 100000 in
set_option maxHeartbeats 4000000 in
theorem lp6_0lt {p : Program} {l : Launch} {e : Env} {s : State} {m : MethodId} {below : List Frame} {meth : Method} {c : Code} {b0 : Nat} {D : va_G} {cA : ClassId} {ad : Nat → Nat} {k cells slots : Nat} {Q : State → Prop} {g : Nat → Nat → Int32} {z : Nat → Nat} (C : lcx p l s m c cL_law 15 D cA (lwA s)) (hroom : cells + 12 ≤ room_1.cells ∧ slots + 72 ≤ room_1.slots) (hI : inv g z) {x w y t i j : Nat} (hy : y < 2000000) (ht : t < 2000000) (hi : i < z 0) (hj : j < z 0) (hij : ¬ i = j) (hc : q_n (g 22 i) < q_n (g 22 j)) (h0 : raG g (z 0) i j = 0) (kk : LK p l e s m below meth c b0 D cA ad k (cells + 12) (slots + 72) Q 1286) : ∀ (H : Heap) (locs : List Loc) (ls : Array Slot), va_P D vwCl (rlW cA ad g z) H → va_D (lwA s) (rlW cA ad g z) → va_S (lwA s) s.heap H locs → lv_has ls 15 [(0, .ref (b0)), (1, .ref (ad 70)), (2, .int (nI (z 0))), (3, .int (nI (z 2))), (4, .int (nI k)), (5, .int (nI x)), (6, .int (nI w)), (7, .int (nI y)), (8, .int (nI t)), (9, .int (nI i)), (10, .int (nI j))] → W p l e room_1 s m #[.ref b0] below meth c H locs cells slots Q (F0 m 668 ls []) := by
  intro H locs ls hP hD hS hl
  have hz0 := hI.hz0
  have hz2 := hI.hz2
  have hs := SRrf hI
  have eqi := (hI.own i hi).eq (by omega)
  have eqj := (hI.own j hj).eq (by omega)
  have b1 := (hI.own i hi).lt (by omega)
  have b2 := (hI.own j hj).lt (by omega)
  have hra6 := raG_le g (z 0) i j
  have hwt := wtN_le g i j
  have hw4 := raG_0 h0
  refine lv_iload C.hx C.hb dL_law_668 (lv_at hl 9 rfl) ?_
  refine lv_iload C.hx C.hb dL_law_670 (lv_at hl 10 rfl) ?_
  refine lv_icmp_ne (tgt := 678) C.hx C.hb dL_law_672 (by decide) (fun _ => ?_) (fun c9 => absurd c9 (by rw [nI_eq (by omega) (by omega)]; omega))
  refine lv_aload_n C.hx C.hb dL_law_678 rfl (lv_at hl 1 rfl) ?_
  refine lv_iload C.hx C.hb dL_law_679 (lv_at hl 9 rfl) ?_
  refine lv_iload C.hx C.hb dL_law_681 (lv_at hl 10 rfl) ?_
  refine q_cE (r := nI 0) (As := [.int (nI i), .int (nI j)]) C hP hD hS (q_CIr (c_X5_whyNot l D cA ad g z i j hi hj hI.hz0 hij) (congrArg nI h0)) k_X5_whyNot kl_L_48 rfl hl rfl rfl (Nat.le_of_ble_eq_true rfl) ⟨⟨rfl, rfl⟩, Nat.le_of_ble_eq_true rfl, Nat.le_of_ble_eq_true rfl⟩ ⟨by omega, by omega⟩ dL_law_683 (fun H locs hP hD hS => ?_)
  refine lv_istore (lv' := [(11, .int (nI 0)), (0, .ref (b0)), (1, .ref (ad 70)), (2, .int (nI (z 0))), (3, .int (nI (z 2))), (4, .int (nI k)), (5, .int (nI x)), (6, .int (nI w)), (7, .int (nI y)), (8, .int (nI t)), (9, .int (nI i)), (10, .int (nI j))]) C.hx C.hb dL_law_686 hl (by decide) rfl (fun ls hl => ?_)
  refine lv_aload_n C.hx C.hb dL_law_688 rfl (lv_at hl 2 rfl) ?_
  refine lv_iload C.hx C.hb dL_law_689 (lv_at hl 10 rfl) ?_
  refine q_cE (r := nI (q_n (g 22 i))) (As := [.int (nI i)]) C hP hD hS (q_CIr (c_X5_person l D cA ad g z i hi hI.hz0) eqi) k_X5_person kl_L_58 rfl hl rfl rfl (Nat.le_of_ble_eq_true rfl) ⟨⟨rfl, rfl⟩, Nat.le_of_ble_eq_true rfl, Nat.le_of_ble_eq_true rfl⟩ ⟨by omega, by omega⟩ dL_law_691 (fun H locs hP hD hS => ?_)
  refine lv_aload_n C.hx C.hb dL_law_694 rfl (lv_at hl 2 rfl) ?_
  refine lv_iload C.hx C.hb dL_law_695 (lv_at hl 11 rfl) ?_
  refine q_cE (r := nI (q_n (g 22 j))) (As := [.int (nI j)]) C hP hD hS (q_CIr (c_X5_person l D cA ad g z j hj hI.hz0) eqj) k_X5_person kl_L_58 rfl hl rfl rfl (Nat.le_of_ble_eq_true rfl) ⟨⟨rfl, rfl⟩, Nat.le_of_ble_eq_true rfl, Nat.le_of_ble_eq_true rfl⟩ ⟨by omega, by omega⟩ dL_law_697 (fun H locs hP hD hS => ?_)
  refine lv_icmp_ge (tgt := 712) C.hx C.hb dL_law_700 (by decide) (fun c9 => absurd c9 (by rw [nI_leI (by omega) (by omega)]; omega)) (fun _ => ?_)
  refine lv_aload_n C.hx C.hb dL_law_703 rfl (lv_at hl 2 rfl) ?_
  refine lv_iload C.hx C.hb dL_law_704 (lv_at hl 10 rfl) ?_
  refine q_cE (r := nI (q_n (g 22 i))) (As := [.int (nI i)]) C hP hD hS (q_CIr (c_X5_person l D cA ad g z i hi hI.hz0) eqi) k_X5_person kl_L_58 rfl hl rfl rfl (Nat.le_of_ble_eq_true rfl) ⟨⟨rfl, rfl⟩, Nat.le_of_ble_eq_true rfl, Nat.le_of_ble_eq_true rfl⟩ ⟨by omega, by omega⟩ dL_law_706 (fun H locs hP hD hS => ?_)
  refine lv_goto (tgt := 718) C.hx C.hb dL_law_709 (by decide) ?_
  refine lv_istore (lv' := [(12, .int (nI (q_n (g 22 i)))), (11, .int (nI 0)), (0, .ref (b0)), (1, .ref (ad 70)), (2, .int (nI (z 0))), (3, .int (nI (z 2))), (4, .int (nI k)), (5, .int (nI x)), (6, .int (nI w)), (7, .int (nI y)), (8, .int (nI t)), (9, .int (nI i)), (10, .int (nI j))]) C.hx C.hb dL_law_718 hl (by decide) rfl (fun ls hl => ?_)
  refine lv_aload_n C.hx C.hb dL_law_720 rfl (lv_at hl 3 rfl) ?_
  refine lv_bipush (v := nI 12) C.hx C.hb dL_law_721 (by decide +kernel) ?_
  refine lv_iload C.hx C.hb dL_law_723 (lv_at hl 11 rfl) ?_
  refine lv_iload C.hx C.hb dL_law_725 (lv_at hl 12 rfl) ?_
  refine lv_iconst (v := nI 0) C.hx C.hb dL_law_727 (by decide +kernel) ?_
  refine lv_iconst (v := nI 0) C.hx C.hb dL_law_728 (by decide +kernel) ?_
  refine q_cB (w := 12) (p0 := nI i) (p1 := nI j) (p2 := nI 0) (p3 := nI 0) (r := nI (q_n (g 22 i))) (c2 := cells + 1) (s2 := slots + 6) C hP hD hS (sm_join hI hi hj hij h0 (nI 0) (nI 0) (lw := q_n (g 22 i)) (by rw [Nat.min_def]; split <;> omega)) hl rfl (Nat.le_of_ble_eq_true rfl) ⟨Nat.le_of_ble_eq_true rfl, Nat.le_of_ble_eq_true rfl⟩ ⟨by omega, by omega⟩ ⟨by omega, by omega⟩ dL_law_729 (fun g2 z2 H locs hp hP hD hS => ?_)
  obtain ⟨hI2, e02, e22, ⟨f1, f2, f3, f4⟩⟩ := hp
  have hi2 : i < z2 0 := by rw [e02]; exact hi
  have hj2 : j < z2 0 := by rw [e02]; exact hj
  refine lv_istore (lv' := [(13, .int (nI (q_n (g 22 i)))), (12, .int (nI (q_n (g 22 i)))), (11, .int (nI 0)), (0, .ref (b0)), (1, .ref (ad 70)), (2, .int (nI (z 0))), (3, .int (nI (z 2))), (4, .int (nI k)), (5, .int (nI x)), (6, .int (nI w)), (7, .int (nI y)), (8, .int (nI t)), (9, .int (nI i)), (10, .int (nI j))]) C.hx C.hb dL_law_732 hl (by decide) rfl (fun ls hl => ?_)
  refine lv_iload C.hx C.hb dL_law_734 (lv_at hl 0 rfl) ?_
  refine lv_iload C.hx C.hb dL_law_736 (lv_at hl 2 rfl) ?_
  refine lv_if_le (tgt := 746) C.hx C.hb dL_law_738 (by decide) (fun _ => ?_) (fun c9 => absurd c9 (by decide +kernel))
  refine lv_iload C.hx C.hb dL_law_746 (lv_at hl 1 rfl) ?_
  refine lv_icmp_ne (tgt := 790) C.hx C.hb dL_law_748 (by decide) (fun c9 => absurd rfl c9) (fun _ => ?_)
  refine lv_iload C.hx C.hb dL_law_751 (lv_at hl 0 rfl) ?_
  refine lv_if_lt (tgt := 792) C.hx C.hb dL_law_753 (by decide) (fun c9 => absurd c9 (nI_pos (by omega))) (fun _ => ?_)
  refine lv_aload_n C.hx C.hb dL_law_756 rfl (lv_at hl 4 rfl) ?_
  refine lv_iload C.hx C.hb dL_law_757 (lv_at hl 12 rfl) ?_
  refine q_cE (r := nI (q_n (g 22 i))) (As := [.int (nI i)]) C hP hD hS (q_CIr (c_X5_person l D cA ad g2 z2 i hi2 hI2.hz0) (((hI2.own i hi2).eq (by have := hI2.hz2; omega)).trans (congrArg nI f1))) k_X5_person kl_L_58 rfl hl rfl rfl (Nat.le_of_ble_eq_true rfl) ⟨⟨rfl, rfl⟩, Nat.le_of_ble_eq_true rfl, Nat.le_of_ble_eq_true rfl⟩ ⟨by omega, by omega⟩ dL_law_759 (fun H locs hP hD hS => ?_)
  refine lv_iload C.hx C.hb dL_law_762 (lv_at hl 0 rfl) ?_
  refine lv_icmp_ne (tgt := 790) C.hx C.hb dL_law_764 (by decide) (fun c9 => absurd rfl c9) (fun _ => ?_)
  refine lv_aload_n C.hx C.hb dL_law_767 rfl (lv_at hl 4 rfl) ?_
  refine lv_iload C.hx C.hb dL_law_768 (lv_at hl 13 rfl) ?_
  refine q_cE (r := nI (q_n (g 22 i))) (As := [.int (nI j)]) C hP hD hS (q_CIr (c_X5_person l D cA ad g2 z2 j hj2 hI2.hz0) (((hI2.own j hj2).eq (by have := hI2.hz2; omega)).trans (congrArg nI f2))) k_X5_person kl_L_58 rfl hl rfl rfl (Nat.le_of_ble_eq_true rfl) ⟨⟨rfl, rfl⟩, Nat.le_of_ble_eq_true rfl, Nat.le_of_ble_eq_true rfl⟩ ⟨by omega, by omega⟩ dL_law_770 (fun H locs hP hD hS => ?_)
  refine lv_iload C.hx C.hb dL_law_773 (lv_at hl 0 rfl) ?_
  refine lv_icmp_ne (tgt := 790) C.hx C.hb dL_law_775 (by decide) (fun c9 => absurd rfl c9) (fun _ => ?_)
  refine lv_aload_n C.hx C.hb dL_law_778 rfl (lv_at hl 4 rfl) ?_
  refine lv_iload C.hx C.hb dL_law_779 (lv_at hl 12 rfl) ?_
  refine lv_iload C.hx C.hb dL_law_781 (lv_at hl 13 rfl) ?_
  refine q_cE (r := nI 1) (As := [.int (nI i), .int (nI j)]) C hP hD hS (q_CIr (c_X5_whyNot l D cA ad g2 z2 i j hi2 hj2 hI2.hz0 hij) (congrArg nI f3)) k_X5_whyNot kl_L_48 rfl hl rfl rfl (Nat.le_of_ble_eq_true rfl) ⟨⟨rfl, rfl⟩, Nat.le_of_ble_eq_true rfl, Nat.le_of_ble_eq_true rfl⟩ ⟨by omega, by omega⟩ dL_law_783 (fun H locs hP hD hS => ?_)
  refine lv_iconst (v := nI 1) C.hx C.hb dL_law_786 (by decide +kernel) ?_
  refine lv_icmp_eq (tgt := 792) C.hx C.hb dL_law_787 (by decide) (fun _ => ?_) (fun c9 => absurd c9 (by decide +kernel))
  refine lv_iload C.hx C.hb dL_law_792 (lv_at hl 2 rfl) ?_
  refine lv_iconst (v := nI 5) C.hx C.hb dL_law_794 (by decide +kernel) ?_
  refine lv_icmp_ne (tgt := 810) C.hx C.hb dL_law_795 (by decide) (fun _ => ?_) (fun c9 => absurd c9 (by decide +kernel))
  refine lv_iload C.hx C.hb dL_law_810 (lv_at hl 2 rfl) ?_
  refine lv_if_ne (tgt := 829) C.hx C.hb dL_law_812 (by decide) (fun c9 => absurd c9 (by decide +kernel)) (fun _ => ?_)
  refine lv_aload_n C.hx C.hb dL_law_815 rfl (lv_at hl 4 rfl) ?_
  refine lv_iload C.hx C.hb dL_law_816 (lv_at hl 12 rfl) ?_
  refine lv_iload C.hx C.hb dL_law_818 (lv_at hl 13 rfl) ?_
  refine q_cE (r := nI (wtN g i j)) (As := [.int (nI i), .int (nI j)]) C hP hD hS (q_CIr (c_X5_weight l D cA ad g2 z2 i j hi2 hj2 hI2.hz0 hij) (congrArg nI f4)) k_X5_weight kl_L_45 rfl hl rfl rfl (Nat.le_of_ble_eq_true rfl) ⟨⟨rfl, rfl⟩, Nat.le_of_ble_eq_true rfl, Nat.le_of_ble_eq_true rfl⟩ ⟨by omega, by omega⟩ dL_law_820 (fun H locs hP hD hS => ?_)
  refine lv_iconst (v := nI 4) C.hx C.hb dL_law_823 (by decide +kernel) ?_
  refine lv_icmp_ge (tgt := 829) C.hx C.hb dL_law_824 (by decide) (fun _ => ?_) (fun c9 => absurd c9 (by rw [nI_leI (by omega) (by omega)]; omega))
  refine lv_goto (tgt := 1286) C.hx C.hb dL_law_829 (by decide) ?_
  refine W.widen (k := cells + 12) (n := slots + 72) (by omega) (by omega) ?_
  exact kk g2 z2 H locs ls (z 0) (z 2) hI2 e02 e22  hP hD hS (lv_sub hl [3, 4, 5, 6, 7] rfl)

set_option maxRecDepth 100000 in
set_option maxHeartbeats 4000000 in
theorem lp6_5lt {p : Program} {l : Launch} {e : Env} {s : State} {m : MethodId} {below : List Frame} {meth : Method} {c : Code} {b0 : Nat} {D : va_G} {cA : ClassId} {ad : Nat → Nat} {k cells slots : Nat} {Q : State → Prop} {g : Nat → Nat → Int32} {z : Nat → Nat} (C : lcx p l s m c cL_law 15 D cA (lwA s)) (hroom : cells + 12 ≤ room_1.cells ∧ slots + 72 ≤ room_1.slots) (hI : inv g z) {x w y t i j : Nat} (hy : y < 2000000) (ht : t < 2000000) (hi : i < z 0) (hj : j < z 0) (hij : ¬ i = j) (hc : q_n (g 22 i) < q_n (g 22 j)) (h5 : raG g (z 0) i j = 5) (kk : LK p l e s m below meth c b0 D cA ad k (cells + 12) (slots + 72) Q 1286) : ∀ (H : Heap) (locs : List Loc) (ls : Array Slot), va_P D vwCl (rlW cA ad g z) H → va_D (lwA s) (rlW cA ad g z) → va_S (lwA s) s.heap H locs → lv_has ls 15 [(0, .ref (b0)), (1, .ref (ad 70)), (2, .int (nI (z 0))), (3, .int (nI (z 2))), (4, .int (nI k)), (5, .int (nI x)), (6, .int (nI w)), (7, .int (nI y)), (8, .int (nI t)), (9, .int (nI i)), (10, .int (nI j))] → W p l e room_1 s m #[.ref b0] below meth c H locs cells slots Q (F0 m 668 ls []) := by
  intro H locs ls hP hD hS hl
  have hz0 := hI.hz0
  have hz2 := hI.hz2
  have hs := SRrf hI
  have eqi := (hI.own i hi).eq (by omega)
  have eqj := (hI.own j hj).eq (by omega)
  have b1 := (hI.own i hi).lt (by omega)
  have b2 := (hI.own j hj).lt (by omega)
  have hra6 := raG_le g (z 0) i j
  have hwt := wtN_le g i j
  have hw3 := raG_5 h5
  refine lv_iload C.hx C.hb dL_law_668 (lv_at hl 9 rfl) ?_
  refine lv_iload C.hx C.hb dL_law_670 (lv_at hl 10 rfl) ?_
  refine lv_icmp_ne (tgt := 678) C.hx C.hb dL_law_672 (by decide) (fun _ => ?_) (fun c9 => absurd c9 (by rw [nI_eq (by omega) (by omega)]; omega))
  refine lv_aload_n C.hx C.hb dL_law_678 rfl (lv_at hl 1 rfl) ?_
  refine lv_iload C.hx C.hb dL_law_679 (lv_at hl 9 rfl) ?_
  refine lv_iload C.hx C.hb dL_law_681 (lv_at hl 10 rfl) ?_
  refine q_cE (r := nI 5) (As := [.int (nI i), .int (nI j)]) C hP hD hS (q_CIr (c_X5_whyNot l D cA ad g z i j hi hj hI.hz0 hij) (congrArg nI h5)) k_X5_whyNot kl_L_48 rfl hl rfl rfl (Nat.le_of_ble_eq_true rfl) ⟨⟨rfl, rfl⟩, Nat.le_of_ble_eq_true rfl, Nat.le_of_ble_eq_true rfl⟩ ⟨by omega, by omega⟩ dL_law_683 (fun H locs hP hD hS => ?_)
  refine lv_istore (lv' := [(11, .int (nI 5)), (0, .ref (b0)), (1, .ref (ad 70)), (2, .int (nI (z 0))), (3, .int (nI (z 2))), (4, .int (nI k)), (5, .int (nI x)), (6, .int (nI w)), (7, .int (nI y)), (8, .int (nI t)), (9, .int (nI i)), (10, .int (nI j))]) C.hx C.hb dL_law_686 hl (by decide) rfl (fun ls hl => ?_)
  refine lv_aload_n C.hx C.hb dL_law_688 rfl (lv_at hl 2 rfl) ?_
  refine lv_iload C.hx C.hb dL_law_689 (lv_at hl 10 rfl) ?_
  refine q_cE (r := nI (q_n (g 22 i))) (As := [.int (nI i)]) C hP hD hS (q_CIr (c_X5_person l D cA ad g z i hi hI.hz0) eqi) k_X5_person kl_L_58 rfl hl rfl rfl (Nat.le_of_ble_eq_true rfl) ⟨⟨rfl, rfl⟩, Nat.le_of_ble_eq_true rfl, Nat.le_of_ble_eq_true rfl⟩ ⟨by omega, by omega⟩ dL_law_691 (fun H locs hP hD hS => ?_)
  refine lv_aload_n C.hx C.hb dL_law_694 rfl (lv_at hl 2 rfl) ?_
  refine lv_iload C.hx C.hb dL_law_695 (lv_at hl 11 rfl) ?_
  refine q_cE (r := nI (q_n (g 22 j))) (As := [.int (nI j)]) C hP hD hS (q_CIr (c_X5_person l D cA ad g z j hj hI.hz0) eqj) k_X5_person kl_L_58 rfl hl rfl rfl (Nat.le_of_ble_eq_true rfl) ⟨⟨rfl, rfl⟩, Nat.le_of_ble_eq_true rfl, Nat.le_of_ble_eq_true rfl⟩ ⟨by omega, by omega⟩ dL_law_697 (fun H locs hP hD hS => ?_)
  refine lv_icmp_ge (tgt := 712) C.hx C.hb dL_law_700 (by decide) (fun c9 => absurd c9 (by rw [nI_leI (by omega) (by omega)]; omega)) (fun _ => ?_)
  refine lv_aload_n C.hx C.hb dL_law_703 rfl (lv_at hl 2 rfl) ?_
  refine lv_iload C.hx C.hb dL_law_704 (lv_at hl 10 rfl) ?_
  refine q_cE (r := nI (q_n (g 22 i))) (As := [.int (nI i)]) C hP hD hS (q_CIr (c_X5_person l D cA ad g z i hi hI.hz0) eqi) k_X5_person kl_L_58 rfl hl rfl rfl (Nat.le_of_ble_eq_true rfl) ⟨⟨rfl, rfl⟩, Nat.le_of_ble_eq_true rfl, Nat.le_of_ble_eq_true rfl⟩ ⟨by omega, by omega⟩ dL_law_706 (fun H locs hP hD hS => ?_)
  refine lv_goto (tgt := 718) C.hx C.hb dL_law_709 (by decide) ?_
  refine lv_istore (lv' := [(12, .int (nI (q_n (g 22 i)))), (11, .int (nI 5)), (0, .ref (b0)), (1, .ref (ad 70)), (2, .int (nI (z 0))), (3, .int (nI (z 2))), (4, .int (nI k)), (5, .int (nI x)), (6, .int (nI w)), (7, .int (nI y)), (8, .int (nI t)), (9, .int (nI i)), (10, .int (nI j))]) C.hx C.hb dL_law_718 hl (by decide) rfl (fun ls hl => ?_)
  refine lv_aload_n C.hx C.hb dL_law_720 rfl (lv_at hl 3 rfl) ?_
  refine lv_bipush (v := nI 12) C.hx C.hb dL_law_721 (by decide +kernel) ?_
  refine lv_iload C.hx C.hb dL_law_723 (lv_at hl 11 rfl) ?_
  refine lv_iload C.hx C.hb dL_law_725 (lv_at hl 12 rfl) ?_
  refine lv_iconst (v := nI 0) C.hx C.hb dL_law_727 (by decide +kernel) ?_
  refine lv_iconst (v := nI 0) C.hx C.hb dL_law_728 (by decide +kernel) ?_
  refine q_cB (w := 12) (p0 := nI i) (p1 := nI j) (p2 := nI 0) (p3 := nI 0) (r := -7000003) (c2 := cells + 1) (s2 := slots + 6) C hP hD hS (sm_joinx C.htr hI hi hj hij (by omega) (nI 0) (nI 0)) hl rfl (Nat.le_of_ble_eq_true rfl) ⟨Nat.le_of_ble_eq_true rfl, Nat.le_of_ble_eq_true rfl⟩ ⟨by omega, by omega⟩ ⟨by omega, by omega⟩ dL_law_729 (fun g2 z2 H locs hp hP hD hS => ?_)
  have hs2 := hp
  refine lv_istore (lv' := [(13, .int (-7000003)), (12, .int (nI (q_n (g 22 i)))), (11, .int (nI 5)), (0, .ref (b0)), (1, .ref (ad 70)), (2, .int (nI (z 0))), (3, .int (nI (z 2))), (4, .int (nI k)), (5, .int (nI x)), (6, .int (nI w)), (7, .int (nI y)), (8, .int (nI t)), (9, .int (nI i)), (10, .int (nI j))]) C.hx C.hb dL_law_732 hl (by decide) rfl (fun ls hl => ?_)
  refine lv_iload C.hx C.hb dL_law_734 (lv_at hl 0 rfl) ?_
  refine lv_iload C.hx C.hb dL_law_736 (lv_at hl 2 rfl) ?_
  refine lv_if_le (tgt := 746) C.hx C.hb dL_law_738 (by decide) (fun c9 => absurd c9 (by decide +kernel)) (fun _ => ?_)
  refine lv_ldc (v := -7000003) C.hx C.hb C.hown (C.hT.use kk_L_96 _) dL_law_741 ?_
  refine lv_goto (tgt := 748) C.hx C.hb dL_law_743 (by decide) ?_
  refine lv_icmp_ne (tgt := 790) C.hx C.hb dL_law_748 (by decide) (fun c9 => absurd c9 (by decide +kernel)) (fun _ => ?_)
  refine lv_iload C.hx C.hb dL_law_751 (lv_at hl 0 rfl) ?_
  refine lv_if_lt (tgt := 792) C.hx C.hb dL_law_753 (by decide) (fun _ => ?_) (fun c9 => absurd c9 (by decide +kernel))
  refine lv_iload C.hx C.hb dL_law_792 (lv_at hl 2 rfl) ?_
  refine lv_iconst (v := nI 5) C.hx C.hb dL_law_794 (by decide +kernel) ?_
  refine lv_icmp_ne (tgt := 810) C.hx C.hb dL_law_795 (by decide) (fun c9 => absurd c9 (by decide +kernel)) (fun _ => ?_)
  refine lv_aload_n C.hx C.hb dL_law_798 rfl (lv_at hl 4 rfl) ?_
  refine lv_iload C.hx C.hb dL_law_799 (lv_at hl 12 rfl) ?_
  refine lv_iload C.hx C.hb dL_law_801 (lv_at hl 13 rfl) ?_
  refine q_cQ (r := nI (wtN g i j)) (As := [.int (nI i), .int (nI j)]) C hP hD hS (sq_weight hs2 hi hj hij) k_X5_weight kl_L_45 rfl hl rfl rfl (Nat.le_of_ble_eq_true rfl) ⟨⟨rfl, rfl⟩, Nat.le_of_ble_eq_true rfl, Nat.le_of_ble_eq_true rfl⟩ ⟨by omega, by omega⟩ dL_law_803 (fun g3 z3 H locs hp hP hD hS => ?_)
  have hs3 := hp
  refine lv_iconst (v := nI 3) C.hx C.hb dL_law_806 (by decide +kernel) ?_
  refine lv_icmp_gt (tgt := 827) C.hx C.hb dL_law_807 (by decide) (fun c9 => absurd c9 (by rw [nI_ltI (by omega) (by omega)]; omega)) (fun _ => ?_)
  refine lv_iload C.hx C.hb dL_law_810 (lv_at hl 2 rfl) ?_
  refine lv_if_ne (tgt := 829) C.hx C.hb dL_law_812 (by decide) (fun _ => ?_) (fun c9 => absurd c9 (by decide +kernel))
  refine lv_goto (tgt := 1286) C.hx C.hb dL_law_829 (by decide) ?_
  refine W.widen (k := cells + 12) (n := slots + 72) (by omega) (by omega) ?_
  exact kk g3 z3 H locs ls (z 0) (z 2) hs3.2.2.2.2 hs3.2.1 hs3.2.2.2.1  hP hD hS (lv_sub hl [3, 4, 5, 6, 7] rfl)

set_option maxRecDepth 100000 in
set_option maxHeartbeats 4000000 in
theorem lp6_nlt {p : Program} {l : Launch} {e : Env} {s : State} {m : MethodId} {below : List Frame} {meth : Method} {c : Code} {b0 : Nat} {D : va_G} {cA : ClassId} {ad : Nat → Nat} {k cells slots : Nat} {Q : State → Prop} {g : Nat → Nat → Int32} {z : Nat → Nat} (C : lcx p l s m c cL_law 15 D cA (lwA s)) (hroom : cells + 12 ≤ room_1.cells ∧ slots + 72 ≤ room_1.slots) (hI : inv g z) {x w y t i j : Nat} (hy : y < 2000000) (ht : t < 2000000) (hi : i < z 0) (hj : j < z 0) (hij : ¬ i = j) (hc : q_n (g 22 i) < q_n (g 22 j)) (h0 : ¬ raG g (z 0) i j = 0) (h5 : ¬ raG g (z 0) i j = 5) (kk : LK p l e s m below meth c b0 D cA ad k (cells + 12) (slots + 72) Q 1286) : ∀ (H : Heap) (locs : List Loc) (ls : Array Slot), va_P D vwCl (rlW cA ad g z) H → va_D (lwA s) (rlW cA ad g z) → va_S (lwA s) s.heap H locs → lv_has ls 15 [(0, .ref (b0)), (1, .ref (ad 70)), (2, .int (nI (z 0))), (3, .int (nI (z 2))), (4, .int (nI k)), (5, .int (nI x)), (6, .int (nI w)), (7, .int (nI y)), (8, .int (nI t)), (9, .int (nI i)), (10, .int (nI j))] → W p l e room_1 s m #[.ref b0] below meth c H locs cells slots Q (F0 m 668 ls []) := by
  intro H locs ls hP hD hS hl
  have hz0 := hI.hz0
  have hz2 := hI.hz2
  have hs := SRrf hI
  have eqi := (hI.own i hi).eq (by omega)
  have eqj := (hI.own j hj).eq (by omega)
  have b1 := (hI.own i hi).lt (by omega)
  have b2 := (hI.own j hj).lt (by omega)
  have hra6 := raG_le g (z 0) i j
  have hwt := wtN_le g i j
  refine lv_iload C.hx C.hb dL_law_668 (lv_at hl 9 rfl) ?_
  refine lv_iload C.hx C.hb dL_law_670 (lv_at hl 10 rfl) ?_
  refine lv_icmp_ne (tgt := 678) C.hx C.hb dL_law_672 (by decide) (fun _ => ?_) (fun c9 => absurd c9 (by rw [nI_eq (by omega) (by omega)]; omega))
  refine lv_aload_n C.hx C.hb dL_law_678 rfl (lv_at hl 1 rfl) ?_
  refine lv_iload C.hx C.hb dL_law_679 (lv_at hl 9 rfl) ?_
  refine lv_iload C.hx C.hb dL_law_681 (lv_at hl 10 rfl) ?_
  refine q_cE (r := nI (raG g (z 0) i j)) (As := [.int (nI i), .int (nI j)]) C hP hD hS (c_X5_whyNot l D cA ad g z i j hi hj hI.hz0 hij) k_X5_whyNot kl_L_48 rfl hl rfl rfl (Nat.le_of_ble_eq_true rfl) ⟨⟨rfl, rfl⟩, Nat.le_of_ble_eq_true rfl, Nat.le_of_ble_eq_true rfl⟩ ⟨by omega, by omega⟩ dL_law_683 (fun H locs hP hD hS => ?_)
  refine lv_istore (lv' := [(11, .int (nI (raG g (z 0) i j))), (0, .ref (b0)), (1, .ref (ad 70)), (2, .int (nI (z 0))), (3, .int (nI (z 2))), (4, .int (nI k)), (5, .int (nI x)), (6, .int (nI w)), (7, .int (nI y)), (8, .int (nI t)), (9, .int (nI i)), (10, .int (nI j))]) C.hx C.hb dL_law_686 hl (by decide) rfl (fun ls hl => ?_)
  refine lv_aload_n C.hx C.hb dL_law_688 rfl (lv_at hl 2 rfl) ?_
  refine lv_iload C.hx C.hb dL_law_689 (lv_at hl 10 rfl) ?_
  refine q_cE (r := nI (q_n (g 22 i))) (As := [.int (nI i)]) C hP hD hS (q_CIr (c_X5_person l D cA ad g z i hi hI.hz0) eqi) k_X5_person kl_L_58 rfl hl rfl rfl (Nat.le_of_ble_eq_true rfl) ⟨⟨rfl, rfl⟩, Nat.le_of_ble_eq_true rfl, Nat.le_of_ble_eq_true rfl⟩ ⟨by omega, by omega⟩ dL_law_691 (fun H locs hP hD hS => ?_)
  refine lv_aload_n C.hx C.hb dL_law_694 rfl (lv_at hl 2 rfl) ?_
  refine lv_iload C.hx C.hb dL_law_695 (lv_at hl 11 rfl) ?_
  refine q_cE (r := nI (q_n (g 22 j))) (As := [.int (nI j)]) C hP hD hS (q_CIr (c_X5_person l D cA ad g z j hj hI.hz0) eqj) k_X5_person kl_L_58 rfl hl rfl rfl (Nat.le_of_ble_eq_true rfl) ⟨⟨rfl, rfl⟩, Nat.le_of_ble_eq_true rfl, Nat.le_of_ble_eq_true rfl⟩ ⟨by omega, by omega⟩ dL_law_697 (fun H locs hP hD hS => ?_)
  refine lv_icmp_ge (tgt := 712) C.hx C.hb dL_law_700 (by decide) (fun c9 => absurd c9 (by rw [nI_leI (by omega) (by omega)]; omega)) (fun _ => ?_)
  refine lv_aload_n C.hx C.hb dL_law_703 rfl (lv_at hl 2 rfl) ?_
  refine lv_iload C.hx C.hb dL_law_704 (lv_at hl 10 rfl) ?_
  refine q_cE (r := nI (q_n (g 22 i))) (As := [.int (nI i)]) C hP hD hS (q_CIr (c_X5_person l D cA ad g z i hi hI.hz0) eqi) k_X5_person kl_L_58 rfl hl rfl rfl (Nat.le_of_ble_eq_true rfl) ⟨⟨rfl, rfl⟩, Nat.le_of_ble_eq_true rfl, Nat.le_of_ble_eq_true rfl⟩ ⟨by omega, by omega⟩ dL_law_706 (fun H locs hP hD hS => ?_)
  refine lv_goto (tgt := 718) C.hx C.hb dL_law_709 (by decide) ?_
  refine lv_istore (lv' := [(12, .int (nI (q_n (g 22 i)))), (11, .int (nI (raG g (z 0) i j))), (0, .ref (b0)), (1, .ref (ad 70)), (2, .int (nI (z 0))), (3, .int (nI (z 2))), (4, .int (nI k)), (5, .int (nI x)), (6, .int (nI w)), (7, .int (nI y)), (8, .int (nI t)), (9, .int (nI i)), (10, .int (nI j))]) C.hx C.hb dL_law_718 hl (by decide) rfl (fun ls hl => ?_)
  refine lv_aload_n C.hx C.hb dL_law_720 rfl (lv_at hl 3 rfl) ?_
  refine lv_bipush (v := nI 12) C.hx C.hb dL_law_721 (by decide +kernel) ?_
  refine lv_iload C.hx C.hb dL_law_723 (lv_at hl 11 rfl) ?_
  refine lv_iload C.hx C.hb dL_law_725 (lv_at hl 12 rfl) ?_
  refine lv_iconst (v := nI 0) C.hx C.hb dL_law_727 (by decide +kernel) ?_
  refine lv_iconst (v := nI 0) C.hx C.hb dL_law_728 (by decide +kernel) ?_
  refine q_cB (w := 12) (p0 := nI i) (p1 := nI j) (p2 := nI 0) (p3 := nI 0) (r := -7000003) (c2 := cells + 1) (s2 := slots + 6) C hP hD hS (sm_joinx C.htr hI hi hj hij h0 (nI 0) (nI 0)) hl rfl (Nat.le_of_ble_eq_true rfl) ⟨Nat.le_of_ble_eq_true rfl, Nat.le_of_ble_eq_true rfl⟩ ⟨by omega, by omega⟩ ⟨by omega, by omega⟩ dL_law_729 (fun g2 z2 H locs hp hP hD hS => ?_)
  have hs2 := hp
  refine lv_istore (lv' := [(13, .int (-7000003)), (12, .int (nI (q_n (g 22 i)))), (11, .int (nI (raG g (z 0) i j))), (0, .ref (b0)), (1, .ref (ad 70)), (2, .int (nI (z 0))), (3, .int (nI (z 2))), (4, .int (nI k)), (5, .int (nI x)), (6, .int (nI w)), (7, .int (nI y)), (8, .int (nI t)), (9, .int (nI i)), (10, .int (nI j))]) C.hx C.hb dL_law_732 hl (by decide) rfl (fun ls hl => ?_)
  refine lv_iload C.hx C.hb dL_law_734 (lv_at hl 0 rfl) ?_
  refine lv_iload C.hx C.hb dL_law_736 (lv_at hl 2 rfl) ?_
  refine lv_if_le (tgt := 746) C.hx C.hb dL_law_738 (by decide) (fun c9 => absurd c9 (by rw [nIle0 (by omega)]; omega)) (fun _ => ?_)
  refine lv_ldc (v := -7000003) C.hx C.hb C.hown (C.hT.use kk_L_96 _) dL_law_741 ?_
  refine lv_goto (tgt := 748) C.hx C.hb dL_law_743 (by decide) ?_
  refine lv_icmp_ne (tgt := 790) C.hx C.hb dL_law_748 (by decide) (fun c9 => absurd c9 (by decide +kernel)) (fun _ => ?_)
  refine lv_iload C.hx C.hb dL_law_751 (lv_at hl 0 rfl) ?_
  refine lv_if_lt (tgt := 792) C.hx C.hb dL_law_753 (by decide) (fun _ => ?_) (fun c9 => absurd c9 (by decide +kernel))
  refine lv_iload C.hx C.hb dL_law_792 (lv_at hl 2 rfl) ?_
  refine lv_iconst (v := nI 5) C.hx C.hb dL_law_794 (by decide +kernel) ?_
  refine lv_icmp_ne (tgt := 810) C.hx C.hb dL_law_795 (by decide) (fun _ => ?_) (fun c9 => absurd c9 (by rw [nI_eq (by omega) (by omega)]; omega))
  refine lv_iload C.hx C.hb dL_law_810 (lv_at hl 2 rfl) ?_
  refine lv_if_ne (tgt := 829) C.hx C.hb dL_law_812 (by decide) (fun _ => ?_) (fun c9 => absurd c9 (by rw [nIz (by omega)]; omega))
  refine lv_goto (tgt := 1286) C.hx C.hb dL_law_829 (by decide) ?_
  refine W.widen (k := cells + 12) (n := slots + 72) (by omega) (by omega) ?_
  exact kk g2 z2 H locs ls (z 0) (z 2) hs2.2.2.2.2 hs2.2.1 hs2.2.2.2.1  hP hD hS (lv_sub hl [3, 4, 5, 6, 7] rfl)

set_option maxRecDepth 100000 in
set_option maxHeartbeats 4000000 in
theorem lp6_0ge {p : Program} {l : Launch} {e : Env} {s : State} {m : MethodId} {below : List Frame} {meth : Method} {c : Code} {b0 : Nat} {D : va_G} {cA : ClassId} {ad : Nat → Nat} {k cells slots : Nat} {Q : State → Prop} {g : Nat → Nat → Int32} {z : Nat → Nat} (C : lcx p l s m c cL_law 15 D cA (lwA s)) (hroom : cells + 12 ≤ room_1.cells ∧ slots + 72 ≤ room_1.slots) (hI : inv g z) {x w y t i j : Nat} (hy : y < 2000000) (ht : t < 2000000) (hi : i < z 0) (hj : j < z 0) (hij : ¬ i = j) (hc : ¬ q_n (g 22 i) < q_n (g 22 j)) (h0 : raG g (z 0) i j = 0) (kk : LK p l e s m below meth c b0 D cA ad k (cells + 12) (slots + 72) Q 1286) : ∀ (H : Heap) (locs : List Loc) (ls : Array Slot), va_P D vwCl (rlW cA ad g z) H → va_D (lwA s) (rlW cA ad g z) → va_S (lwA s) s.heap H locs → lv_has ls 15 [(0, .ref (b0)), (1, .ref (ad 70)), (2, .int (nI (z 0))), (3, .int (nI (z 2))), (4, .int (nI k)), (5, .int (nI x)), (6, .int (nI w)), (7, .int (nI y)), (8, .int (nI t)), (9, .int (nI i)), (10, .int (nI j))] → W p l e room_1 s m #[.ref b0] below meth c H locs cells slots Q (F0 m 668 ls []) := by
  intro H locs ls hP hD hS hl
  have hz0 := hI.hz0
  have hz2 := hI.hz2
  have hs := SRrf hI
  have eqi := (hI.own i hi).eq (by omega)
  have eqj := (hI.own j hj).eq (by omega)
  have b1 := (hI.own i hi).lt (by omega)
  have b2 := (hI.own j hj).lt (by omega)
  have hra6 := raG_le g (z 0) i j
  have hwt := wtN_le g i j
  have hw4 := raG_0 h0
  refine lv_iload C.hx C.hb dL_law_668 (lv_at hl 9 rfl) ?_
  refine lv_iload C.hx C.hb dL_law_670 (lv_at hl 10 rfl) ?_
  refine lv_icmp_ne (tgt := 678) C.hx C.hb dL_law_672 (by decide) (fun _ => ?_) (fun c9 => absurd c9 (by rw [nI_eq (by omega) (by omega)]; omega))
  refine lv_aload_n C.hx C.hb dL_law_678 rfl (lv_at hl 1 rfl) ?_
  refine lv_iload C.hx C.hb dL_law_679 (lv_at hl 9 rfl) ?_
  refine lv_iload C.hx C.hb dL_law_681 (lv_at hl 10 rfl) ?_
  refine q_cE (r := nI 0) (As := [.int (nI i), .int (nI j)]) C hP hD hS (q_CIr (c_X5_whyNot l D cA ad g z i j hi hj hI.hz0 hij) (congrArg nI h0)) k_X5_whyNot kl_L_48 rfl hl rfl rfl (Nat.le_of_ble_eq_true rfl) ⟨⟨rfl, rfl⟩, Nat.le_of_ble_eq_true rfl, Nat.le_of_ble_eq_true rfl⟩ ⟨by omega, by omega⟩ dL_law_683 (fun H locs hP hD hS => ?_)
  refine lv_istore (lv' := [(11, .int (nI 0)), (0, .ref (b0)), (1, .ref (ad 70)), (2, .int (nI (z 0))), (3, .int (nI (z 2))), (4, .int (nI k)), (5, .int (nI x)), (6, .int (nI w)), (7, .int (nI y)), (8, .int (nI t)), (9, .int (nI i)), (10, .int (nI j))]) C.hx C.hb dL_law_686 hl (by decide) rfl (fun ls hl => ?_)
  refine lv_aload_n C.hx C.hb dL_law_688 rfl (lv_at hl 2 rfl) ?_
  refine lv_iload C.hx C.hb dL_law_689 (lv_at hl 10 rfl) ?_
  refine q_cE (r := nI (q_n (g 22 i))) (As := [.int (nI i)]) C hP hD hS (q_CIr (c_X5_person l D cA ad g z i hi hI.hz0) eqi) k_X5_person kl_L_58 rfl hl rfl rfl (Nat.le_of_ble_eq_true rfl) ⟨⟨rfl, rfl⟩, Nat.le_of_ble_eq_true rfl, Nat.le_of_ble_eq_true rfl⟩ ⟨by omega, by omega⟩ dL_law_691 (fun H locs hP hD hS => ?_)
  refine lv_aload_n C.hx C.hb dL_law_694 rfl (lv_at hl 2 rfl) ?_
  refine lv_iload C.hx C.hb dL_law_695 (lv_at hl 11 rfl) ?_
  refine q_cE (r := nI (q_n (g 22 j))) (As := [.int (nI j)]) C hP hD hS (q_CIr (c_X5_person l D cA ad g z j hj hI.hz0) eqj) k_X5_person kl_L_58 rfl hl rfl rfl (Nat.le_of_ble_eq_true rfl) ⟨⟨rfl, rfl⟩, Nat.le_of_ble_eq_true rfl, Nat.le_of_ble_eq_true rfl⟩ ⟨by omega, by omega⟩ dL_law_697 (fun H locs hP hD hS => ?_)
  refine lv_icmp_ge (tgt := 712) C.hx C.hb dL_law_700 (by decide) (fun _ => ?_) (fun c9 => absurd c9 (by rw [nI_leI (by omega) (by omega)]; omega))
  refine lv_aload_n C.hx C.hb dL_law_712 rfl (lv_at hl 2 rfl) ?_
  refine lv_iload C.hx C.hb dL_law_713 (lv_at hl 11 rfl) ?_
  refine q_cE (r := nI (q_n (g 22 j))) (As := [.int (nI j)]) C hP hD hS (q_CIr (c_X5_person l D cA ad g z j hj hI.hz0) eqj) k_X5_person kl_L_58 rfl hl rfl rfl (Nat.le_of_ble_eq_true rfl) ⟨⟨rfl, rfl⟩, Nat.le_of_ble_eq_true rfl, Nat.le_of_ble_eq_true rfl⟩ ⟨by omega, by omega⟩ dL_law_715 (fun H locs hP hD hS => ?_)
  refine lv_istore (lv' := [(12, .int (nI (q_n (g 22 j)))), (11, .int (nI 0)), (0, .ref (b0)), (1, .ref (ad 70)), (2, .int (nI (z 0))), (3, .int (nI (z 2))), (4, .int (nI k)), (5, .int (nI x)), (6, .int (nI w)), (7, .int (nI y)), (8, .int (nI t)), (9, .int (nI i)), (10, .int (nI j))]) C.hx C.hb dL_law_718 hl (by decide) rfl (fun ls hl => ?_)
  refine lv_aload_n C.hx C.hb dL_law_720 rfl (lv_at hl 3 rfl) ?_
  refine lv_bipush (v := nI 12) C.hx C.hb dL_law_721 (by decide +kernel) ?_
  refine lv_iload C.hx C.hb dL_law_723 (lv_at hl 11 rfl) ?_
  refine lv_iload C.hx C.hb dL_law_725 (lv_at hl 12 rfl) ?_
  refine lv_iconst (v := nI 0) C.hx C.hb dL_law_727 (by decide +kernel) ?_
  refine lv_iconst (v := nI 0) C.hx C.hb dL_law_728 (by decide +kernel) ?_
  refine q_cB (w := 12) (p0 := nI i) (p1 := nI j) (p2 := nI 0) (p3 := nI 0) (r := nI (q_n (g 22 j))) (c2 := cells + 1) (s2 := slots + 6) C hP hD hS (sm_join hI hi hj hij h0 (nI 0) (nI 0) (lw := q_n (g 22 j)) (by rw [Nat.min_def]; split <;> omega)) hl rfl (Nat.le_of_ble_eq_true rfl) ⟨Nat.le_of_ble_eq_true rfl, Nat.le_of_ble_eq_true rfl⟩ ⟨by omega, by omega⟩ ⟨by omega, by omega⟩ dL_law_729 (fun g2 z2 H locs hp hP hD hS => ?_)
  obtain ⟨hI2, e02, e22, ⟨f1, f2, f3, f4⟩⟩ := hp
  have hi2 : i < z2 0 := by rw [e02]; exact hi
  have hj2 : j < z2 0 := by rw [e02]; exact hj
  refine lv_istore (lv' := [(13, .int (nI (q_n (g 22 j)))), (12, .int (nI (q_n (g 22 j)))), (11, .int (nI 0)), (0, .ref (b0)), (1, .ref (ad 70)), (2, .int (nI (z 0))), (3, .int (nI (z 2))), (4, .int (nI k)), (5, .int (nI x)), (6, .int (nI w)), (7, .int (nI y)), (8, .int (nI t)), (9, .int (nI i)), (10, .int (nI j))]) C.hx C.hb dL_law_732 hl (by decide) rfl (fun ls hl => ?_)
  refine lv_iload C.hx C.hb dL_law_734 (lv_at hl 0 rfl) ?_
  refine lv_iload C.hx C.hb dL_law_736 (lv_at hl 2 rfl) ?_
  refine lv_if_le (tgt := 746) C.hx C.hb dL_law_738 (by decide) (fun _ => ?_) (fun c9 => absurd c9 (by decide +kernel))
  refine lv_iload C.hx C.hb dL_law_746 (lv_at hl 1 rfl) ?_
  refine lv_icmp_ne (tgt := 790) C.hx C.hb dL_law_748 (by decide) (fun c9 => absurd rfl c9) (fun _ => ?_)
  refine lv_iload C.hx C.hb dL_law_751 (lv_at hl 0 rfl) ?_
  refine lv_if_lt (tgt := 792) C.hx C.hb dL_law_753 (by decide) (fun c9 => absurd c9 (nI_pos (by omega))) (fun _ => ?_)
  refine lv_aload_n C.hx C.hb dL_law_756 rfl (lv_at hl 4 rfl) ?_
  refine lv_iload C.hx C.hb dL_law_757 (lv_at hl 12 rfl) ?_
  refine q_cE (r := nI (q_n (g 22 j))) (As := [.int (nI i)]) C hP hD hS (q_CIr (c_X5_person l D cA ad g2 z2 i hi2 hI2.hz0) (((hI2.own i hi2).eq (by have := hI2.hz2; omega)).trans (congrArg nI f1))) k_X5_person kl_L_58 rfl hl rfl rfl (Nat.le_of_ble_eq_true rfl) ⟨⟨rfl, rfl⟩, Nat.le_of_ble_eq_true rfl, Nat.le_of_ble_eq_true rfl⟩ ⟨by omega, by omega⟩ dL_law_759 (fun H locs hP hD hS => ?_)
  refine lv_iload C.hx C.hb dL_law_762 (lv_at hl 0 rfl) ?_
  refine lv_icmp_ne (tgt := 790) C.hx C.hb dL_law_764 (by decide) (fun c9 => absurd rfl c9) (fun _ => ?_)
  refine lv_aload_n C.hx C.hb dL_law_767 rfl (lv_at hl 4 rfl) ?_
  refine lv_iload C.hx C.hb dL_law_768 (lv_at hl 13 rfl) ?_
  refine q_cE (r := nI (q_n (g 22 j))) (As := [.int (nI j)]) C hP hD hS (q_CIr (c_X5_person l D cA ad g2 z2 j hj2 hI2.hz0) (((hI2.own j hj2).eq (by have := hI2.hz2; omega)).trans (congrArg nI f2))) k_X5_person kl_L_58 rfl hl rfl rfl (Nat.le_of_ble_eq_true rfl) ⟨⟨rfl, rfl⟩, Nat.le_of_ble_eq_true rfl, Nat.le_of_ble_eq_true rfl⟩ ⟨by omega, by omega⟩ dL_law_770 (fun H locs hP hD hS => ?_)
  refine lv_iload C.hx C.hb dL_law_773 (lv_at hl 0 rfl) ?_
  refine lv_icmp_ne (tgt := 790) C.hx C.hb dL_law_775 (by decide) (fun c9 => absurd rfl c9) (fun _ => ?_)
  refine lv_aload_n C.hx C.hb dL_law_778 rfl (lv_at hl 4 rfl) ?_
  refine lv_iload C.hx C.hb dL_law_779 (lv_at hl 12 rfl) ?_
  refine lv_iload C.hx C.hb dL_law_781 (lv_at hl 13 rfl) ?_
  refine q_cE (r := nI 1) (As := [.int (nI i), .int (nI j)]) C hP hD hS (q_CIr (c_X5_whyNot l D cA ad g2 z2 i j hi2 hj2 hI2.hz0 hij) (congrArg nI f3)) k_X5_whyNot kl_L_48 rfl hl rfl rfl (Nat.le_of_ble_eq_true rfl) ⟨⟨rfl, rfl⟩, Nat.le_of_ble_eq_true rfl, Nat.le_of_ble_eq_true rfl⟩ ⟨by omega, by omega⟩ dL_law_783 (fun H locs hP hD hS => ?_)
  refine lv_iconst (v := nI 1) C.hx C.hb dL_law_786 (by decide +kernel) ?_
  refine lv_icmp_eq (tgt := 792) C.hx C.hb dL_law_787 (by decide) (fun _ => ?_) (fun c9 => absurd c9 (by decide +kernel))
  refine lv_iload C.hx C.hb dL_law_792 (lv_at hl 2 rfl) ?_
  refine lv_iconst (v := nI 5) C.hx C.hb dL_law_794 (by decide +kernel) ?_
  refine lv_icmp_ne (tgt := 810) C.hx C.hb dL_law_795 (by decide) (fun _ => ?_) (fun c9 => absurd c9 (by decide +kernel))
  refine lv_iload C.hx C.hb dL_law_810 (lv_at hl 2 rfl) ?_
  refine lv_if_ne (tgt := 829) C.hx C.hb dL_law_812 (by decide) (fun c9 => absurd c9 (by decide +kernel)) (fun _ => ?_)
  refine lv_aload_n C.hx C.hb dL_law_815 rfl (lv_at hl 4 rfl) ?_
  refine lv_iload C.hx C.hb dL_law_816 (lv_at hl 12 rfl) ?_
  refine lv_iload C.hx C.hb dL_law_818 (lv_at hl 13 rfl) ?_
  refine q_cE (r := nI (wtN g i j)) (As := [.int (nI i), .int (nI j)]) C hP hD hS (q_CIr (c_X5_weight l D cA ad g2 z2 i j hi2 hj2 hI2.hz0 hij) (congrArg nI f4)) k_X5_weight kl_L_45 rfl hl rfl rfl (Nat.le_of_ble_eq_true rfl) ⟨⟨rfl, rfl⟩, Nat.le_of_ble_eq_true rfl, Nat.le_of_ble_eq_true rfl⟩ ⟨by omega, by omega⟩ dL_law_820 (fun H locs hP hD hS => ?_)
  refine lv_iconst (v := nI 4) C.hx C.hb dL_law_823 (by decide +kernel) ?_
  refine lv_icmp_ge (tgt := 829) C.hx C.hb dL_law_824 (by decide) (fun _ => ?_) (fun c9 => absurd c9 (by rw [nI_leI (by omega) (by omega)]; omega))
  refine lv_goto (tgt := 1286) C.hx C.hb dL_law_829 (by decide) ?_
  refine W.widen (k := cells + 12) (n := slots + 72) (by omega) (by omega) ?_
  exact kk g2 z2 H locs ls (z 0) (z 2) hI2 e02 e22  hP hD hS (lv_sub hl [3, 4, 5, 6, 7] rfl)

set_option maxRecDepth 100000 in
set_option maxHeartbeats 4000000 in
theorem lp6_5ge {p : Program} {l : Launch} {e : Env} {s : State} {m : MethodId} {below : List Frame} {meth : Method} {c : Code} {b0 : Nat} {D : va_G} {cA : ClassId} {ad : Nat → Nat} {k cells slots : Nat} {Q : State → Prop} {g : Nat → Nat → Int32} {z : Nat → Nat} (C : lcx p l s m c cL_law 15 D cA (lwA s)) (hroom : cells + 12 ≤ room_1.cells ∧ slots + 72 ≤ room_1.slots) (hI : inv g z) {x w y t i j : Nat} (hy : y < 2000000) (ht : t < 2000000) (hi : i < z 0) (hj : j < z 0) (hij : ¬ i = j) (hc : ¬ q_n (g 22 i) < q_n (g 22 j)) (h5 : raG g (z 0) i j = 5) (kk : LK p l e s m below meth c b0 D cA ad k (cells + 12) (slots + 72) Q 1286) : ∀ (H : Heap) (locs : List Loc) (ls : Array Slot), va_P D vwCl (rlW cA ad g z) H → va_D (lwA s) (rlW cA ad g z) → va_S (lwA s) s.heap H locs → lv_has ls 15 [(0, .ref (b0)), (1, .ref (ad 70)), (2, .int (nI (z 0))), (3, .int (nI (z 2))), (4, .int (nI k)), (5, .int (nI x)), (6, .int (nI w)), (7, .int (nI y)), (8, .int (nI t)), (9, .int (nI i)), (10, .int (nI j))] → W p l e room_1 s m #[.ref b0] below meth c H locs cells slots Q (F0 m 668 ls []) := by
  intro H locs ls hP hD hS hl
  have hz0 := hI.hz0
  have hz2 := hI.hz2
  have hs := SRrf hI
  have eqi := (hI.own i hi).eq (by omega)
  have eqj := (hI.own j hj).eq (by omega)
  have b1 := (hI.own i hi).lt (by omega)
  have b2 := (hI.own j hj).lt (by omega)
  have hra6 := raG_le g (z 0) i j
  have hwt := wtN_le g i j
  have hw3 := raG_5 h5
  refine lv_iload C.hx C.hb dL_law_668 (lv_at hl 9 rfl) ?_
  refine lv_iload C.hx C.hb dL_law_670 (lv_at hl 10 rfl) ?_
  refine lv_icmp_ne (tgt := 678) C.hx C.hb dL_law_672 (by decide) (fun _ => ?_) (fun c9 => absurd c9 (by rw [nI_eq (by omega) (by omega)]; omega))
  refine lv_aload_n C.hx C.hb dL_law_678 rfl (lv_at hl 1 rfl) ?_
  refine lv_iload C.hx C.hb dL_law_679 (lv_at hl 9 rfl) ?_
  refine lv_iload C.hx C.hb dL_law_681 (lv_at hl 10 rfl) ?_
  refine q_cE (r := nI 5) (As := [.int (nI i), .int (nI j)]) C hP hD hS (q_CIr (c_X5_whyNot l D cA ad g z i j hi hj hI.hz0 hij) (congrArg nI h5)) k_X5_whyNot kl_L_48 rfl hl rfl rfl (Nat.le_of_ble_eq_true rfl) ⟨⟨rfl, rfl⟩, Nat.le_of_ble_eq_true rfl, Nat.le_of_ble_eq_true rfl⟩ ⟨by omega, by omega⟩ dL_law_683 (fun H locs hP hD hS => ?_)
  refine lv_istore (lv' := [(11, .int (nI 5)), (0, .ref (b0)), (1, .ref (ad 70)), (2, .int (nI (z 0))), (3, .int (nI (z 2))), (4, .int (nI k)), (5, .int (nI x)), (6, .int (nI w)), (7, .int (nI y)), (8, .int (nI t)), (9, .int (nI i)), (10, .int (nI j))]) C.hx C.hb dL_law_686 hl (by decide) rfl (fun ls hl => ?_)
  refine lv_aload_n C.hx C.hb dL_law_688 rfl (lv_at hl 2 rfl) ?_
  refine lv_iload C.hx C.hb dL_law_689 (lv_at hl 10 rfl) ?_
  refine q_cE (r := nI (q_n (g 22 i))) (As := [.int (nI i)]) C hP hD hS (q_CIr (c_X5_person l D cA ad g z i hi hI.hz0) eqi) k_X5_person kl_L_58 rfl hl rfl rfl (Nat.le_of_ble_eq_true rfl) ⟨⟨rfl, rfl⟩, Nat.le_of_ble_eq_true rfl, Nat.le_of_ble_eq_true rfl⟩ ⟨by omega, by omega⟩ dL_law_691 (fun H locs hP hD hS => ?_)
  refine lv_aload_n C.hx C.hb dL_law_694 rfl (lv_at hl 2 rfl) ?_
  refine lv_iload C.hx C.hb dL_law_695 (lv_at hl 11 rfl) ?_
  refine q_cE (r := nI (q_n (g 22 j))) (As := [.int (nI j)]) C hP hD hS (q_CIr (c_X5_person l D cA ad g z j hj hI.hz0) eqj) k_X5_person kl_L_58 rfl hl rfl rfl (Nat.le_of_ble_eq_true rfl) ⟨⟨rfl, rfl⟩, Nat.le_of_ble_eq_true rfl, Nat.le_of_ble_eq_true rfl⟩ ⟨by omega, by omega⟩ dL_law_697 (fun H locs hP hD hS => ?_)
  refine lv_icmp_ge (tgt := 712) C.hx C.hb dL_law_700 (by decide) (fun _ => ?_) (fun c9 => absurd c9 (by rw [nI_leI (by omega) (by omega)]; omega))
  refine lv_aload_n C.hx C.hb dL_law_712 rfl (lv_at hl 2 rfl) ?_
  refine lv_iload C.hx C.hb dL_law_713 (lv_at hl 11 rfl) ?_
  refine q_cE (r := nI (q_n (g 22 j))) (As := [.int (nI j)]) C hP hD hS (q_CIr (c_X5_person l D cA ad g z j hj hI.hz0) eqj) k_X5_person kl_L_58 rfl hl rfl rfl (Nat.le_of_ble_eq_true rfl) ⟨⟨rfl, rfl⟩, Nat.le_of_ble_eq_true rfl, Nat.le_of_ble_eq_true rfl⟩ ⟨by omega, by omega⟩ dL_law_715 (fun H locs hP hD hS => ?_)
  refine lv_istore (lv' := [(12, .int (nI (q_n (g 22 j)))), (11, .int (nI 5)), (0, .ref (b0)), (1, .ref (ad 70)), (2, .int (nI (z 0))), (3, .int (nI (z 2))), (4, .int (nI k)), (5, .int (nI x)), (6, .int (nI w)), (7, .int (nI y)), (8, .int (nI t)), (9, .int (nI i)), (10, .int (nI j))]) C.hx C.hb dL_law_718 hl (by decide) rfl (fun ls hl => ?_)
  refine lv_aload_n C.hx C.hb dL_law_720 rfl (lv_at hl 3 rfl) ?_
  refine lv_bipush (v := nI 12) C.hx C.hb dL_law_721 (by decide +kernel) ?_
  refine lv_iload C.hx C.hb dL_law_723 (lv_at hl 11 rfl) ?_
  refine lv_iload C.hx C.hb dL_law_725 (lv_at hl 12 rfl) ?_
  refine lv_iconst (v := nI 0) C.hx C.hb dL_law_727 (by decide +kernel) ?_
  refine lv_iconst (v := nI 0) C.hx C.hb dL_law_728 (by decide +kernel) ?_
  refine q_cB (w := 12) (p0 := nI i) (p1 := nI j) (p2 := nI 0) (p3 := nI 0) (r := -7000003) (c2 := cells + 1) (s2 := slots + 6) C hP hD hS (sm_joinx C.htr hI hi hj hij (by omega) (nI 0) (nI 0)) hl rfl (Nat.le_of_ble_eq_true rfl) ⟨Nat.le_of_ble_eq_true rfl, Nat.le_of_ble_eq_true rfl⟩ ⟨by omega, by omega⟩ ⟨by omega, by omega⟩ dL_law_729 (fun g2 z2 H locs hp hP hD hS => ?_)
  have hs2 := hp
  refine lv_istore (lv' := [(13, .int (-7000003)), (12, .int (nI (q_n (g 22 j)))), (11, .int (nI 5)), (0, .ref (b0)), (1, .ref (ad 70)), (2, .int (nI (z 0))), (3, .int (nI (z 2))), (4, .int (nI k)), (5, .int (nI x)), (6, .int (nI w)), (7, .int (nI y)), (8, .int (nI t)), (9, .int (nI i)), (10, .int (nI j))]) C.hx C.hb dL_law_732 hl (by decide) rfl (fun ls hl => ?_)
  refine lv_iload C.hx C.hb dL_law_734 (lv_at hl 0 rfl) ?_
  refine lv_iload C.hx C.hb dL_law_736 (lv_at hl 2 rfl) ?_
  refine lv_if_le (tgt := 746) C.hx C.hb dL_law_738 (by decide) (fun c9 => absurd c9 (by decide +kernel)) (fun _ => ?_)
  refine lv_ldc (v := -7000003) C.hx C.hb C.hown (C.hT.use kk_L_96 _) dL_law_741 ?_
  refine lv_goto (tgt := 748) C.hx C.hb dL_law_743 (by decide) ?_
  refine lv_icmp_ne (tgt := 790) C.hx C.hb dL_law_748 (by decide) (fun c9 => absurd c9 (by decide +kernel)) (fun _ => ?_)
  refine lv_iload C.hx C.hb dL_law_751 (lv_at hl 0 rfl) ?_
  refine lv_if_lt (tgt := 792) C.hx C.hb dL_law_753 (by decide) (fun _ => ?_) (fun c9 => absurd c9 (by decide +kernel))
  refine lv_iload C.hx C.hb dL_law_792 (lv_at hl 2 rfl) ?_
  refine lv_iconst (v := nI 5) C.hx C.hb dL_law_794 (by decide +kernel) ?_
  refine lv_icmp_ne (tgt := 810) C.hx C.hb dL_law_795 (by decide) (fun c9 => absurd c9 (by decide +kernel)) (fun _ => ?_)
  refine lv_aload_n C.hx C.hb dL_law_798 rfl (lv_at hl 4 rfl) ?_
  refine lv_iload C.hx C.hb dL_law_799 (lv_at hl 12 rfl) ?_
  refine lv_iload C.hx C.hb dL_law_801 (lv_at hl 13 rfl) ?_
  refine q_cQ (r := nI (wtN g i j)) (As := [.int (nI i), .int (nI j)]) C hP hD hS (sq_weight hs2 hi hj hij) k_X5_weight kl_L_45 rfl hl rfl rfl (Nat.le_of_ble_eq_true rfl) ⟨⟨rfl, rfl⟩, Nat.le_of_ble_eq_true rfl, Nat.le_of_ble_eq_true rfl⟩ ⟨by omega, by omega⟩ dL_law_803 (fun g3 z3 H locs hp hP hD hS => ?_)
  have hs3 := hp
  refine lv_iconst (v := nI 3) C.hx C.hb dL_law_806 (by decide +kernel) ?_
  refine lv_icmp_gt (tgt := 827) C.hx C.hb dL_law_807 (by decide) (fun c9 => absurd c9 (by rw [nI_ltI (by omega) (by omega)]; omega)) (fun _ => ?_)
  refine lv_iload C.hx C.hb dL_law_810 (lv_at hl 2 rfl) ?_
  refine lv_if_ne (tgt := 829) C.hx C.hb dL_law_812 (by decide) (fun _ => ?_) (fun c9 => absurd c9 (by decide +kernel))
  refine lv_goto (tgt := 1286) C.hx C.hb dL_law_829 (by decide) ?_
  refine W.widen (k := cells + 12) (n := slots + 72) (by omega) (by omega) ?_
  exact kk g3 z3 H locs ls (z 0) (z 2) hs3.2.2.2.2 hs3.2.1 hs3.2.2.2.1  hP hD hS (lv_sub hl [3, 4, 5, 6, 7] rfl)

set_option maxRecDepth 100000 in
set_option maxHeartbeats 4000000 in
theorem lp6_nge {p : Program} {l : Launch} {e : Env} {s : State} {m : MethodId} {below : List Frame} {meth : Method} {c : Code} {b0 : Nat} {D : va_G} {cA : ClassId} {ad : Nat → Nat} {k cells slots : Nat} {Q : State → Prop} {g : Nat → Nat → Int32} {z : Nat → Nat} (C : lcx p l s m c cL_law 15 D cA (lwA s)) (hroom : cells + 12 ≤ room_1.cells ∧ slots + 72 ≤ room_1.slots) (hI : inv g z) {x w y t i j : Nat} (hy : y < 2000000) (ht : t < 2000000) (hi : i < z 0) (hj : j < z 0) (hij : ¬ i = j) (hc : ¬ q_n (g 22 i) < q_n (g 22 j)) (h0 : ¬ raG g (z 0) i j = 0) (h5 : ¬ raG g (z 0) i j = 5) (kk : LK p l e s m below meth c b0 D cA ad k (cells + 12) (slots + 72) Q 1286) : ∀ (H : Heap) (locs : List Loc) (ls : Array Slot), va_P D vwCl (rlW cA ad g z) H → va_D (lwA s) (rlW cA ad g z) → va_S (lwA s) s.heap H locs → lv_has ls 15 [(0, .ref (b0)), (1, .ref (ad 70)), (2, .int (nI (z 0))), (3, .int (nI (z 2))), (4, .int (nI k)), (5, .int (nI x)), (6, .int (nI w)), (7, .int (nI y)), (8, .int (nI t)), (9, .int (nI i)), (10, .int (nI j))] → W p l e room_1 s m #[.ref b0] below meth c H locs cells slots Q (F0 m 668 ls []) := by
  intro H locs ls hP hD hS hl
  have hz0 := hI.hz0
  have hz2 := hI.hz2
  have hs := SRrf hI
  have eqi := (hI.own i hi).eq (by omega)
  have eqj := (hI.own j hj).eq (by omega)
  have b1 := (hI.own i hi).lt (by omega)
  have b2 := (hI.own j hj).lt (by omega)
  have hra6 := raG_le g (z 0) i j
  have hwt := wtN_le g i j
  refine lv_iload C.hx C.hb dL_law_668 (lv_at hl 9 rfl) ?_
  refine lv_iload C.hx C.hb dL_law_670 (lv_at hl 10 rfl) ?_
  refine lv_icmp_ne (tgt := 678) C.hx C.hb dL_law_672 (by decide) (fun _ => ?_) (fun c9 => absurd c9 (by rw [nI_eq (by omega) (by omega)]; omega))
  refine lv_aload_n C.hx C.hb dL_law_678 rfl (lv_at hl 1 rfl) ?_
  refine lv_iload C.hx C.hb dL_law_679 (lv_at hl 9 rfl) ?_
  refine lv_iload C.hx C.hb dL_law_681 (lv_at hl 10 rfl) ?_
  refine q_cE (r := nI (raG g (z 0) i j)) (As := [.int (nI i), .int (nI j)]) C hP hD hS (c_X5_whyNot l D cA ad g z i j hi hj hI.hz0 hij) k_X5_whyNot kl_L_48 rfl hl rfl rfl (Nat.le_of_ble_eq_true rfl) ⟨⟨rfl, rfl⟩, Nat.le_of_ble_eq_true rfl, Nat.le_of_ble_eq_true rfl⟩ ⟨by omega, by omega⟩ dL_law_683 (fun H locs hP hD hS => ?_)
  refine lv_istore (lv' := [(11, .int (nI (raG g (z 0) i j))), (0, .ref (b0)), (1, .ref (ad 70)), (2, .int (nI (z 0))), (3, .int (nI (z 2))), (4, .int (nI k)), (5, .int (nI x)), (6, .int (nI w)), (7, .int (nI y)), (8, .int (nI t)), (9, .int (nI i)), (10, .int (nI j))]) C.hx C.hb dL_law_686 hl (by decide) rfl (fun ls hl => ?_)
  refine lv_aload_n C.hx C.hb dL_law_688 rfl (lv_at hl 2 rfl) ?_
  refine lv_iload C.hx C.hb dL_law_689 (lv_at hl 10 rfl) ?_
  refine q_cE (r := nI (q_n (g 22 i))) (As := [.int (nI i)]) C hP hD hS (q_CIr (c_X5_person l D cA ad g z i hi hI.hz0) eqi) k_X5_person kl_L_58 rfl hl rfl rfl (Nat.le_of_ble_eq_true rfl) ⟨⟨rfl, rfl⟩, Nat.le_of_ble_eq_true rfl, Nat.le_of_ble_eq_true rfl⟩ ⟨by omega, by omega⟩ dL_law_691 (fun H locs hP hD hS => ?_)
  refine lv_aload_n C.hx C.hb dL_law_694 rfl (lv_at hl 2 rfl) ?_
  refine lv_iload C.hx C.hb dL_law_695 (lv_at hl 11 rfl) ?_
  refine q_cE (r := nI (q_n (g 22 j))) (As := [.int (nI j)]) C hP hD hS (q_CIr (c_X5_person l D cA ad g z j hj hI.hz0) eqj) k_X5_person kl_L_58 rfl hl rfl rfl (Nat.le_of_ble_eq_true rfl) ⟨⟨rfl, rfl⟩, Nat.le_of_ble_eq_true rfl, Nat.le_of_ble_eq_true rfl⟩ ⟨by omega, by omega⟩ dL_law_697 (fun H locs hP hD hS => ?_)
  refine lv_icmp_ge (tgt := 712) C.hx C.hb dL_law_700 (by decide) (fun _ => ?_) (fun c9 => absurd c9 (by rw [nI_leI (by omega) (by omega)]; omega))
  refine lv_aload_n C.hx C.hb dL_law_712 rfl (lv_at hl 2 rfl) ?_
  refine lv_iload C.hx C.hb dL_law_713 (lv_at hl 11 rfl) ?_
  refine q_cE (r := nI (q_n (g 22 j))) (As := [.int (nI j)]) C hP hD hS (q_CIr (c_X5_person l D cA ad g z j hj hI.hz0) eqj) k_X5_person kl_L_58 rfl hl rfl rfl (Nat.le_of_ble_eq_true rfl) ⟨⟨rfl, rfl⟩, Nat.le_of_ble_eq_true rfl, Nat.le_of_ble_eq_true rfl⟩ ⟨by omega, by omega⟩ dL_law_715 (fun H locs hP hD hS => ?_)
  refine lv_istore (lv' := [(12, .int (nI (q_n (g 22 j)))), (11, .int (nI (raG g (z 0) i j))), (0, .ref (b0)), (1, .ref (ad 70)), (2, .int (nI (z 0))), (3, .int (nI (z 2))), (4, .int (nI k)), (5, .int (nI x)), (6, .int (nI w)), (7, .int (nI y)), (8, .int (nI t)), (9, .int (nI i)), (10, .int (nI j))]) C.hx C.hb dL_law_718 hl (by decide) rfl (fun ls hl => ?_)
  refine lv_aload_n C.hx C.hb dL_law_720 rfl (lv_at hl 3 rfl) ?_
  refine lv_bipush (v := nI 12) C.hx C.hb dL_law_721 (by decide +kernel) ?_
  refine lv_iload C.hx C.hb dL_law_723 (lv_at hl 11 rfl) ?_
  refine lv_iload C.hx C.hb dL_law_725 (lv_at hl 12 rfl) ?_
  refine lv_iconst (v := nI 0) C.hx C.hb dL_law_727 (by decide +kernel) ?_
  refine lv_iconst (v := nI 0) C.hx C.hb dL_law_728 (by decide +kernel) ?_
  refine q_cB (w := 12) (p0 := nI i) (p1 := nI j) (p2 := nI 0) (p3 := nI 0) (r := -7000003) (c2 := cells + 1) (s2 := slots + 6) C hP hD hS (sm_joinx C.htr hI hi hj hij h0 (nI 0) (nI 0)) hl rfl (Nat.le_of_ble_eq_true rfl) ⟨Nat.le_of_ble_eq_true rfl, Nat.le_of_ble_eq_true rfl⟩ ⟨by omega, by omega⟩ ⟨by omega, by omega⟩ dL_law_729 (fun g2 z2 H locs hp hP hD hS => ?_)
  have hs2 := hp
  refine lv_istore (lv' := [(13, .int (-7000003)), (12, .int (nI (q_n (g 22 j)))), (11, .int (nI (raG g (z 0) i j))), (0, .ref (b0)), (1, .ref (ad 70)), (2, .int (nI (z 0))), (3, .int (nI (z 2))), (4, .int (nI k)), (5, .int (nI x)), (6, .int (nI w)), (7, .int (nI y)), (8, .int (nI t)), (9, .int (nI i)), (10, .int (nI j))]) C.hx C.hb dL_law_732 hl (by decide) rfl (fun ls hl => ?_)
  refine lv_iload C.hx C.hb dL_law_734 (lv_at hl 0 rfl) ?_
  refine lv_iload C.hx C.hb dL_law_736 (lv_at hl 2 rfl) ?_
  refine lv_if_le (tgt := 746) C.hx C.hb dL_law_738 (by decide) (fun c9 => absurd c9 (by rw [nIle0 (by omega)]; omega)) (fun _ => ?_)
  refine lv_ldc (v := -7000003) C.hx C.hb C.hown (C.hT.use kk_L_96 _) dL_law_741 ?_
  refine lv_goto (tgt := 748) C.hx C.hb dL_law_743 (by decide) ?_
  refine lv_icmp_ne (tgt := 790) C.hx C.hb dL_law_748 (by decide) (fun c9 => absurd c9 (by decide +kernel)) (fun _ => ?_)
  refine lv_iload C.hx C.hb dL_law_751 (lv_at hl 0 rfl) ?_
  refine lv_if_lt (tgt := 792) C.hx C.hb dL_law_753 (by decide) (fun _ => ?_) (fun c9 => absurd c9 (by decide +kernel))
  refine lv_iload C.hx C.hb dL_law_792 (lv_at hl 2 rfl) ?_
  refine lv_iconst (v := nI 5) C.hx C.hb dL_law_794 (by decide +kernel) ?_
  refine lv_icmp_ne (tgt := 810) C.hx C.hb dL_law_795 (by decide) (fun _ => ?_) (fun c9 => absurd c9 (by rw [nI_eq (by omega) (by omega)]; omega))
  refine lv_iload C.hx C.hb dL_law_810 (lv_at hl 2 rfl) ?_
  refine lv_if_ne (tgt := 829) C.hx C.hb dL_law_812 (by decide) (fun _ => ?_) (fun c9 => absurd c9 (by rw [nIz (by omega)]; omega))
  refine lv_goto (tgt := 1286) C.hx C.hb dL_law_829 (by decide) ?_
  refine W.widen (k := cells + 12) (n := slots + 72) (by omega) (by omega) ?_
  exact kk g2 z2 H locs ls (z 0) (z 2) hs2.2.2.2.2 hs2.2.1 hs2.2.2.2.1  hP hD hS (lv_sub hl [3, 4, 5, 6, 7] rfl)

set_option maxRecDepth 100000 in
set_option maxHeartbeats 4000000 in
theorem lp8_few {p : Program} {l : Launch} {e : Env} {s : State} {m : MethodId} {below : List Frame} {meth : Method} {c : Code} {b0 : Nat} {D : va_G} {cA : ClassId} {ad : Nat → Nat} {k cells slots : Nat} {Q : State → Prop} {g : Nat → Nat → Int32} {z : Nat → Nat} (C : lcx p l s m c cL_law 15 D cA (lwA s)) (hroom : cells + 12 ≤ room_1.cells ∧ slots + 72 ≤ room_1.slots) (hI : inv g z) {x w y t i j : Nat} (hy : y < 2000000) (ht : t < 2000000) (hi : i < z 0) (h : ¬ 2 ≤ cntN (g 22) (g 22 i) (z 0)) (kk : LK p l e s m below meth c b0 D cA ad k (cells + 12) (slots + 72) Q 1286) : ∀ (H : Heap) (locs : List Loc) (ls : Array Slot), va_P D vwCl (rlW cA ad g z) H → va_D (lwA s) (rlW cA ad g z) → va_S (lwA s) s.heap H locs → lv_has ls 15 [(0, .ref (b0)), (1, .ref (ad 70)), (2, .int (nI (z 0))), (3, .int (nI (z 2))), (4, .int (nI k)), (5, .int (nI x)), (6, .int (nI w)), (7, .int (nI y)), (8, .int (nI t)), (9, .int (nI i)), (10, .int (nI j))] → W p l e room_1 s m #[.ref b0] below meth c H locs cells slots Q (F0 m 839 ls []) := by
  intro H locs ls hP hD hS hl
  have hz0 := hI.hz0
  have hz2 := hI.hz2
  have hs := SRrf hI
  have eqi := (hI.own i hi).eq (by omega)
  have b1 := (hI.own i hi).lt (by omega)
  have hcl := cntN_le (g 22) (g 22 i) (z 0)
  refine lv_aload_n C.hx C.hb dL_law_839 rfl (lv_at hl 1 rfl) ?_
  refine lv_aload_n C.hx C.hb dL_law_840 rfl (lv_at hl 1 rfl) ?_
  refine lv_iload C.hx C.hb dL_law_841 (lv_at hl 9 rfl) ?_
  refine q_cE (r := nI (q_n (g 22 i))) (As := [.int (nI i)]) C hP hD hS (q_CIr (c_X5_person l D cA ad g z i hi hI.hz0) eqi) k_X5_person kl_L_58 rfl hl rfl rfl (Nat.le_of_ble_eq_true rfl) ⟨⟨rfl, rfl⟩, Nat.le_of_ble_eq_true rfl, Nat.le_of_ble_eq_true rfl⟩ ⟨by omega, by omega⟩ dL_law_843 (fun H locs hP hD hS => ?_)
  refine q_cE (r := nI (cntN (g 22) (g 22 i) (z 0))) (As := [.int (nI (q_n (g 22 i)))]) C hP hD hS (q_CIr (c_X5_size l D cA ad g z (q_n (g 22 i)) b1 hI.hz2 hI.hz0) (by rw [hI.self i hi])) k_X5_size kl_L_64 rfl hl rfl rfl (Nat.le_of_ble_eq_true rfl) ⟨⟨rfl, rfl⟩, Nat.le_of_ble_eq_true rfl, Nat.le_of_ble_eq_true rfl⟩ ⟨by omega, by omega⟩ dL_law_846 (fun H locs hP hD hS => ?_)
  refine lv_iconst (v := nI 1) C.hx C.hb dL_law_849 (by decide +kernel) ?_
  refine lv_icmp_le (tgt := 863) C.hx C.hb dL_law_850 (by decide) (fun _ => ?_) (fun c9 => absurd c9 (by rw [nI_leI (by omega) (by omega)]; omega))
  refine lv_iconst (v := nI 0) C.hx C.hb dL_law_863 (by decide +kernel) ?_
  refine lv_istore (lv' := [(11, .int (nI 0)), (0, .ref (b0)), (1, .ref (ad 70)), (2, .int (nI (z 0))), (3, .int (nI (z 2))), (4, .int (nI k)), (5, .int (nI x)), (6, .int (nI w)), (7, .int (nI y)), (8, .int (nI t)), (9, .int (nI i)), (10, .int (nI j))]) C.hx C.hb dL_law_864 hl (by decide) rfl (fun ls hl => ?_)
  refine lv_aload_n C.hx C.hb dL_law_866 rfl (lv_at hl 2 rfl) ?_
  refine lv_bipush (v := nI 13) C.hx C.hb dL_law_867 (by decide +kernel) ?_
  refine lv_iload C.hx C.hb dL_law_869 (lv_at hl 10 rfl) ?_
  refine lv_iconst (v := nI 0) C.hx C.hb dL_law_871 (by decide +kernel) ?_
  refine lv_iconst (v := nI 0) C.hx C.hb dL_law_872 (by decide +kernel) ?_
  refine lv_iconst (v := nI 0) C.hx C.hb dL_law_873 (by decide +kernel) ?_
  refine q_cB (w := 13) (p0 := nI i) (p1 := nI 0) (p2 := nI 0) (p3 := nI 0) (r := -7000003) (c2 := cells + 1) (s2 := slots + 6) C hP hD hS (sm_splitx C.htr hI hi (by omega) (nI 0) (nI 0) (nI 0)) hl rfl (Nat.le_of_ble_eq_true rfl) ⟨Nat.le_of_ble_eq_true rfl, Nat.le_of_ble_eq_true rfl⟩ ⟨by omega, by omega⟩ ⟨by omega, by omega⟩ dL_law_874 (fun g2 z2 H locs hp hP hD hS => ?_)
  have hs2 := hp
  refine lv_iload C.hx C.hb dL_law_877 (lv_at hl 0 rfl) ?_
  refine lv_if_eq (tgt := 886) C.hx C.hb dL_law_879 (by decide) (fun _ => ?_) (fun c9 => absurd c9 (by decide +kernel))
  refine lv_ldc (v := -7000003) C.hx C.hb C.hown (C.hT.use kk_L_96 _) dL_law_886 ?_
  refine lv_icmp_eq (tgt := 893) C.hx C.hb dL_law_888 (by decide) (fun _ => ?_) (fun c9 => absurd c9 (by decide +kernel))
  refine lv_iload_n C.hx C.hb dL_law_893 rfl (lv_at hl 4 rfl) ?_
  refine lv_iload C.hx C.hb dL_law_894 (lv_at hl 0 rfl) ?_
  refine lv_if_eq (tgt := 903) C.hx C.hb dL_law_896 (by decide) (fun _ => ?_) (fun c9 => absurd c9 (by decide +kernel))
  refine lv_iconst (v := nI 0) C.hx C.hb dL_law_903 (by decide +kernel) ?_
  refine lv_iadd C.hx C.hb dL_law_904 ?_
  refine q_top (y := nI ((z 2) + 0)) (nI_add _ _) ?_
  refine lv_istore_n (lv' := [(3, .int (nI ((z 2) + 0))), (11, .int (nI 0)), (0, .ref (b0)), (1, .ref (ad 70)), (2, .int (nI (z 0))), (4, .int (nI k)), (5, .int (nI x)), (6, .int (nI w)), (7, .int (nI y)), (8, .int (nI t)), (9, .int (nI i)), (10, .int (nI j))]) C.hx C.hb dL_law_905 rfl hl (by decide) rfl (fun ls hl => ?_)
  refine lv_iload C.hx C.hb dL_law_906 (lv_at hl 1 rfl) ?_
  refine lv_if_eq (tgt := 936) C.hx C.hb dL_law_908 (by decide) (fun _ => ?_) (fun c9 => absurd c9 (by decide +kernel))
  refine lv_goto (tgt := 1286) C.hx C.hb dL_law_936 (by decide) ?_
  refine W.widen (k := cells + 12) (n := slots + 72) (by omega) (by omega) ?_
  exact kk g2 z2 H locs ls (z 0) ((z 2) + 0) hs2.2.2.2.2 hs2.2.1 hs2.2.2.2.1  hP hD hS (lv_sub hl [2, 3, 4, 0, 5] rfl)

set_option maxRecDepth 100000 in
set_option maxHeartbeats 4000000 in
theorem lp8_full {p : Program} {l : Launch} {e : Env} {s : State} {m : MethodId} {below : List Frame} {meth : Method} {c : Code} {b0 : Nat} {D : va_G} {cA : ClassId} {ad : Nat → Nat} {k cells slots : Nat} {Q : State → Prop} {g : Nat → Nat → Int32} {z : Nat → Nat} (C : lcx p l s m c cL_law 15 D cA (lwA s)) (hroom : cells + 12 ≤ room_1.cells ∧ slots + 72 ≤ room_1.slots) (hI : inv g z) {x w y t i j : Nat} (hy : y < 2000000) (ht : t < 2000000) (hi : i < z 0) (h1 : 2 ≤ cntN (g 22) (g 22 i) (z 0)) (h : ¬ z 2 < 40) (kk : LK p l e s m below meth c b0 D cA ad k (cells + 12) (slots + 72) Q 1286) : ∀ (H : Heap) (locs : List Loc) (ls : Array Slot), va_P D vwCl (rlW cA ad g z) H → va_D (lwA s) (rlW cA ad g z) → va_S (lwA s) s.heap H locs → lv_has ls 15 [(0, .ref (b0)), (1, .ref (ad 70)), (2, .int (nI (z 0))), (3, .int (nI (z 2))), (4, .int (nI k)), (5, .int (nI x)), (6, .int (nI w)), (7, .int (nI y)), (8, .int (nI t)), (9, .int (nI i)), (10, .int (nI j))] → W p l e room_1 s m #[.ref b0] below meth c H locs cells slots Q (F0 m 839 ls []) := by
  intro H locs ls hP hD hS hl
  have hz0 := hI.hz0
  have hz2 := hI.hz2
  have hs := SRrf hI
  have eqi := (hI.own i hi).eq (by omega)
  have b1 := (hI.own i hi).lt (by omega)
  have hcl := cntN_le (g 22) (g 22 i) (z 0)
  refine lv_aload_n C.hx C.hb dL_law_839 rfl (lv_at hl 1 rfl) ?_
  refine lv_aload_n C.hx C.hb dL_law_840 rfl (lv_at hl 1 rfl) ?_
  refine lv_iload C.hx C.hb dL_law_841 (lv_at hl 9 rfl) ?_
  refine q_cE (r := nI (q_n (g 22 i))) (As := [.int (nI i)]) C hP hD hS (q_CIr (c_X5_person l D cA ad g z i hi hI.hz0) eqi) k_X5_person kl_L_58 rfl hl rfl rfl (Nat.le_of_ble_eq_true rfl) ⟨⟨rfl, rfl⟩, Nat.le_of_ble_eq_true rfl, Nat.le_of_ble_eq_true rfl⟩ ⟨by omega, by omega⟩ dL_law_843 (fun H locs hP hD hS => ?_)
  refine q_cE (r := nI (cntN (g 22) (g 22 i) (z 0))) (As := [.int (nI (q_n (g 22 i)))]) C hP hD hS (q_CIr (c_X5_size l D cA ad g z (q_n (g 22 i)) b1 hI.hz2 hI.hz0) (by rw [hI.self i hi])) k_X5_size kl_L_64 rfl hl rfl rfl (Nat.le_of_ble_eq_true rfl) ⟨⟨rfl, rfl⟩, Nat.le_of_ble_eq_true rfl, Nat.le_of_ble_eq_true rfl⟩ ⟨by omega, by omega⟩ dL_law_846 (fun H locs hP hD hS => ?_)
  refine lv_iconst (v := nI 1) C.hx C.hb dL_law_849 (by decide +kernel) ?_
  refine lv_icmp_le (tgt := 863) C.hx C.hb dL_law_850 (by decide) (fun c9 => absurd c9 (by rw [nI_leI (by omega) (by omega)]; omega)) (fun _ => ?_)
  refine lv_iload_n C.hx C.hb dL_law_853 rfl (lv_at hl 3 rfl) ?_
  refine lv_bipush (v := nI 40) C.hx C.hb dL_law_854 (by decide +kernel) ?_
  refine lv_icmp_ge (tgt := 863) C.hx C.hb dL_law_856 (by decide) (fun _ => ?_) (fun c9 => absurd c9 (by rw [nI_leI (by omega) (by omega)]; omega))
  refine lv_iconst (v := nI 0) C.hx C.hb dL_law_863 (by decide +kernel) ?_
  refine lv_istore (lv' := [(11, .int (nI 0)), (0, .ref (b0)), (1, .ref (ad 70)), (2, .int (nI (z 0))), (3, .int (nI (z 2))), (4, .int (nI k)), (5, .int (nI x)), (6, .int (nI w)), (7, .int (nI y)), (8, .int (nI t)), (9, .int (nI i)), (10, .int (nI j))]) C.hx C.hb dL_law_864 hl (by decide) rfl (fun ls hl => ?_)
  refine lv_aload_n C.hx C.hb dL_law_866 rfl (lv_at hl 2 rfl) ?_
  refine lv_bipush (v := nI 13) C.hx C.hb dL_law_867 (by decide +kernel) ?_
  refine lv_iload C.hx C.hb dL_law_869 (lv_at hl 10 rfl) ?_
  refine lv_iconst (v := nI 0) C.hx C.hb dL_law_871 (by decide +kernel) ?_
  refine lv_iconst (v := nI 0) C.hx C.hb dL_law_872 (by decide +kernel) ?_
  refine lv_iconst (v := nI 0) C.hx C.hb dL_law_873 (by decide +kernel) ?_
  refine q_cB (w := 13) (p0 := nI i) (p1 := nI 0) (p2 := nI 0) (p3 := nI 0) (r := -7000003) (c2 := cells + 1) (s2 := slots + 6) C hP hD hS (sm_splitx C.htr hI hi (by omega) (nI 0) (nI 0) (nI 0)) hl rfl (Nat.le_of_ble_eq_true rfl) ⟨Nat.le_of_ble_eq_true rfl, Nat.le_of_ble_eq_true rfl⟩ ⟨by omega, by omega⟩ ⟨by omega, by omega⟩ dL_law_874 (fun g2 z2 H locs hp hP hD hS => ?_)
  have hs2 := hp
  refine lv_iload C.hx C.hb dL_law_877 (lv_at hl 0 rfl) ?_
  refine lv_if_eq (tgt := 886) C.hx C.hb dL_law_879 (by decide) (fun _ => ?_) (fun c9 => absurd c9 (by decide +kernel))
  refine lv_ldc (v := -7000003) C.hx C.hb C.hown (C.hT.use kk_L_96 _) dL_law_886 ?_
  refine lv_icmp_eq (tgt := 893) C.hx C.hb dL_law_888 (by decide) (fun _ => ?_) (fun c9 => absurd c9 (by decide +kernel))
  refine lv_iload_n C.hx C.hb dL_law_893 rfl (lv_at hl 4 rfl) ?_
  refine lv_iload C.hx C.hb dL_law_894 (lv_at hl 0 rfl) ?_
  refine lv_if_eq (tgt := 903) C.hx C.hb dL_law_896 (by decide) (fun _ => ?_) (fun c9 => absurd c9 (by decide +kernel))
  refine lv_iconst (v := nI 0) C.hx C.hb dL_law_903 (by decide +kernel) ?_
  refine lv_iadd C.hx C.hb dL_law_904 ?_
  refine q_top (y := nI ((z 2) + 0)) (nI_add _ _) ?_
  refine lv_istore_n (lv' := [(3, .int (nI ((z 2) + 0))), (11, .int (nI 0)), (0, .ref (b0)), (1, .ref (ad 70)), (2, .int (nI (z 0))), (4, .int (nI k)), (5, .int (nI x)), (6, .int (nI w)), (7, .int (nI y)), (8, .int (nI t)), (9, .int (nI i)), (10, .int (nI j))]) C.hx C.hb dL_law_905 rfl hl (by decide) rfl (fun ls hl => ?_)
  refine lv_iload C.hx C.hb dL_law_906 (lv_at hl 1 rfl) ?_
  refine lv_if_eq (tgt := 936) C.hx C.hb dL_law_908 (by decide) (fun _ => ?_) (fun c9 => absurd c9 (by decide +kernel))
  refine lv_goto (tgt := 1286) C.hx C.hb dL_law_936 (by decide) ?_
  refine W.widen (k := cells + 12) (n := slots + 72) (by omega) (by omega) ?_
  exact kk g2 z2 H locs ls (z 0) ((z 2) + 0) hs2.2.2.2.2 hs2.2.1 hs2.2.2.2.1  hP hD hS (lv_sub hl [2, 3, 4, 0, 5] rfl)

set_option maxRecDepth 100000 in
set_option maxHeartbeats 4000000 in
theorem lp8_ok {p : Program} {l : Launch} {e : Env} {s : State} {m : MethodId} {below : List Frame} {meth : Method} {c : Code} {b0 : Nat} {D : va_G} {cA : ClassId} {ad : Nat → Nat} {k cells slots : Nat} {Q : State → Prop} {g : Nat → Nat → Int32} {z : Nat → Nat} (C : lcx p l s m c cL_law 15 D cA (lwA s)) (hroom : cells + 12 ≤ room_1.cells ∧ slots + 72 ≤ room_1.slots) (hI : inv g z) {x w y t i j : Nat} (hy : y < 2000000) (ht : t < 2000000) (hi : i < z 0) (h1 : 2 ≤ cntN (g 22) (g 22 i) (z 0)) (h2 : z 2 < 40) (kk : LK p l e s m below meth c b0 D cA ad k (cells + 12) (slots + 72) Q 1286) : ∀ (H : Heap) (locs : List Loc) (ls : Array Slot), va_P D vwCl (rlW cA ad g z) H → va_D (lwA s) (rlW cA ad g z) → va_S (lwA s) s.heap H locs → lv_has ls 15 [(0, .ref (b0)), (1, .ref (ad 70)), (2, .int (nI (z 0))), (3, .int (nI (z 2))), (4, .int (nI k)), (5, .int (nI x)), (6, .int (nI w)), (7, .int (nI y)), (8, .int (nI t)), (9, .int (nI i)), (10, .int (nI j))] → W p l e room_1 s m #[.ref b0] below meth c H locs cells slots Q (F0 m 839 ls []) := by
  intro H locs ls hP hD hS hl
  have hz0 := hI.hz0
  have hz2 := hI.hz2
  have hs := SRrf hI
  have eqi := (hI.own i hi).eq (by omega)
  have b1 := (hI.own i hi).lt (by omega)
  have hcl := cntN_le (g 22) (g 22 i) (z 0)
  refine lv_aload_n C.hx C.hb dL_law_839 rfl (lv_at hl 1 rfl) ?_
  refine lv_aload_n C.hx C.hb dL_law_840 rfl (lv_at hl 1 rfl) ?_
  refine lv_iload C.hx C.hb dL_law_841 (lv_at hl 9 rfl) ?_
  refine q_cE (r := nI (q_n (g 22 i))) (As := [.int (nI i)]) C hP hD hS (q_CIr (c_X5_person l D cA ad g z i hi hI.hz0) eqi) k_X5_person kl_L_58 rfl hl rfl rfl (Nat.le_of_ble_eq_true rfl) ⟨⟨rfl, rfl⟩, Nat.le_of_ble_eq_true rfl, Nat.le_of_ble_eq_true rfl⟩ ⟨by omega, by omega⟩ dL_law_843 (fun H locs hP hD hS => ?_)
  refine q_cE (r := nI (cntN (g 22) (g 22 i) (z 0))) (As := [.int (nI (q_n (g 22 i)))]) C hP hD hS (q_CIr (c_X5_size l D cA ad g z (q_n (g 22 i)) b1 hI.hz2 hI.hz0) (by rw [hI.self i hi])) k_X5_size kl_L_64 rfl hl rfl rfl (Nat.le_of_ble_eq_true rfl) ⟨⟨rfl, rfl⟩, Nat.le_of_ble_eq_true rfl, Nat.le_of_ble_eq_true rfl⟩ ⟨by omega, by omega⟩ dL_law_846 (fun H locs hP hD hS => ?_)
  refine lv_iconst (v := nI 1) C.hx C.hb dL_law_849 (by decide +kernel) ?_
  refine lv_icmp_le (tgt := 863) C.hx C.hb dL_law_850 (by decide) (fun c9 => absurd c9 (by rw [nI_leI (by omega) (by omega)]; omega)) (fun _ => ?_)
  refine lv_iload_n C.hx C.hb dL_law_853 rfl (lv_at hl 3 rfl) ?_
  refine lv_bipush (v := nI 40) C.hx C.hb dL_law_854 (by decide +kernel) ?_
  refine lv_icmp_ge (tgt := 863) C.hx C.hb dL_law_856 (by decide) (fun c9 => absurd c9 (by rw [nI_leI (by omega) (by omega)]; omega)) (fun _ => ?_)
  refine lv_iconst (v := nI 1) C.hx C.hb dL_law_859 (by decide +kernel) ?_
  refine lv_goto (tgt := 864) C.hx C.hb dL_law_860 (by decide) ?_
  refine lv_istore (lv' := [(11, .int (nI 1)), (0, .ref (b0)), (1, .ref (ad 70)), (2, .int (nI (z 0))), (3, .int (nI (z 2))), (4, .int (nI k)), (5, .int (nI x)), (6, .int (nI w)), (7, .int (nI y)), (8, .int (nI t)), (9, .int (nI i)), (10, .int (nI j))]) C.hx C.hb dL_law_864 hl (by decide) rfl (fun ls hl => ?_)
  refine lv_aload_n C.hx C.hb dL_law_866 rfl (lv_at hl 2 rfl) ?_
  refine lv_bipush (v := nI 13) C.hx C.hb dL_law_867 (by decide +kernel) ?_
  refine lv_iload C.hx C.hb dL_law_869 (lv_at hl 10 rfl) ?_
  refine lv_iconst (v := nI 0) C.hx C.hb dL_law_871 (by decide +kernel) ?_
  refine lv_iconst (v := nI 0) C.hx C.hb dL_law_872 (by decide +kernel) ?_
  refine lv_iconst (v := nI 0) C.hx C.hb dL_law_873 (by decide +kernel) ?_
  refine q_cB (w := 13) (p0 := nI i) (p1 := nI 0) (p2 := nI 0) (p3 := nI 0) (r := nI (z 2)) (c2 := cells + 1) (s2 := slots + 6) C hP hD hS (sm_split hI hi h1 h2 (nI 0) (nI 0) (nI 0)) hl rfl (Nat.le_of_ble_eq_true rfl) ⟨Nat.le_of_ble_eq_true rfl, Nat.le_of_ble_eq_true rfl⟩ ⟨by omega, by omega⟩ ⟨by omega, by omega⟩ dL_law_874 (fun g2 z2 H locs hp hP hD hS => ?_)
  obtain ⟨hI2, e02, e22, ⟨f1, f2⟩⟩ := hp
  have hi2 : i < z2 0 := by rw [e02]; exact hi
  refine lv_iload C.hx C.hb dL_law_877 (lv_at hl 0 rfl) ?_
  refine lv_if_eq (tgt := 886) C.hx C.hb dL_law_879 (by decide) (fun c9 => absurd c9 (by decide +kernel)) (fun _ => ?_)
  refine lv_iload_n C.hx C.hb dL_law_882 rfl (lv_at hl 4 rfl) ?_
  refine lv_goto (tgt := 888) C.hx C.hb dL_law_883 (by decide) ?_
  refine lv_icmp_eq (tgt := 893) C.hx C.hb dL_law_888 (by decide) (fun _ => ?_) (fun c9 => absurd rfl c9)
  refine lv_iload_n C.hx C.hb dL_law_893 rfl (lv_at hl 4 rfl) ?_
  refine lv_iload C.hx C.hb dL_law_894 (lv_at hl 0 rfl) ?_
  refine lv_if_eq (tgt := 903) C.hx C.hb dL_law_896 (by decide) (fun c9 => absurd c9 (by decide +kernel)) (fun _ => ?_)
  refine lv_iconst (v := nI 1) C.hx C.hb dL_law_899 (by decide +kernel) ?_
  refine lv_goto (tgt := 904) C.hx C.hb dL_law_900 (by decide) ?_
  refine lv_iadd C.hx C.hb dL_law_904 ?_
  refine q_top (y := nI ((z 2) + 1)) (nI_add _ _) ?_
  refine lv_istore_n (lv' := [(3, .int (nI ((z 2) + 1))), (11, .int (nI 1)), (0, .ref (b0)), (1, .ref (ad 70)), (2, .int (nI (z 0))), (4, .int (nI k)), (5, .int (nI x)), (6, .int (nI w)), (7, .int (nI y)), (8, .int (nI t)), (9, .int (nI i)), (10, .int (nI j))]) C.hx C.hb dL_law_905 rfl hl (by decide) rfl (fun ls hl => ?_)
  refine lv_iload C.hx C.hb dL_law_906 (lv_at hl 1 rfl) ?_
  refine lv_if_eq (tgt := 936) C.hx C.hb dL_law_908 (by decide) (fun c9 => absurd c9 (by decide +kernel)) (fun _ => ?_)
  refine lv_aload_n C.hx C.hb dL_law_911 rfl (lv_at hl 3 rfl) ?_
  refine lv_iload_n C.hx C.hb dL_law_912 rfl (lv_at hl 0 rfl) ?_
  refine lv_iconst (v := nI 1) C.hx C.hb dL_law_913 (by decide +kernel) ?_
  refine lv_isub C.hx C.hb dL_law_914 ?_
  refine q_top (y := nI (z 2)) (by rw [pk_sub (by omega)]; rfl) ?_
  refine q_cE (r := nI 1) (As := [.int (nI (z 2))]) C hP hD hS (q_CIr (c_X5_size l D cA ad g2 z2 (z 2) (by rw [e22]; omega) hI2.hz2 hI2.hz0) (by rw [e02, f2])) k_X5_size kl_L_64 rfl hl rfl rfl (Nat.le_of_ble_eq_true rfl) ⟨⟨rfl, rfl⟩, Nat.le_of_ble_eq_true rfl, Nat.le_of_ble_eq_true rfl⟩ ⟨by omega, by omega⟩ dL_law_915 (fun H locs hP hD hS => ?_)
  refine lv_iconst (v := nI 1) C.hx C.hb dL_law_918 (by decide +kernel) ?_
  refine lv_icmp_ne (tgt := 934) C.hx C.hb dL_law_919 (by decide) (fun c9 => absurd c9 (by decide +kernel)) (fun _ => ?_)
  refine lv_aload_n C.hx C.hb dL_law_922 rfl (lv_at hl 3 rfl) ?_
  refine lv_iload C.hx C.hb dL_law_923 (lv_at hl 10 rfl) ?_
  refine q_cE (r := nI (z 2)) (As := [.int (nI i)]) C hP hD hS (q_CIr (c_X5_person l D cA ad g2 z2 i hi2 hI2.hz0) (((hI2.own i hi2).eq (by have := hI2.hz2; omega)).trans (congrArg nI f1))) k_X5_person kl_L_58 rfl hl rfl rfl (Nat.le_of_ble_eq_true rfl) ⟨⟨rfl, rfl⟩, Nat.le_of_ble_eq_true rfl, Nat.le_of_ble_eq_true rfl⟩ ⟨by omega, by omega⟩ dL_law_925 (fun H locs hP hD hS => ?_)
  refine lv_iload_n C.hx C.hb dL_law_928 rfl (lv_at hl 0 rfl) ?_
  refine lv_iconst (v := nI 1) C.hx C.hb dL_law_929 (by decide +kernel) ?_
  refine lv_isub C.hx C.hb dL_law_930 ?_
  refine q_top (y := nI (z 2)) (by rw [pk_sub (by omega)]; rfl) ?_
  refine lv_icmp_eq (tgt := 936) C.hx C.hb dL_law_931 (by decide) (fun _ => ?_) (fun c9 => absurd rfl c9)
  refine lv_goto (tgt := 1286) C.hx C.hb dL_law_936 (by decide) ?_
  refine W.widen (k := cells + 12) (n := slots + 72) (by omega) (by omega) ?_
  exact kk g2 z2 H locs ls (z 0) ((z 2) + 1) hI2 e02 e22  hP hD hS (lv_sub hl [2, 3, 4, 0, 5] rfl)

set_option maxRecDepth 100000 in
set_option maxHeartbeats 4000000 in
theorem lp10_same {p : Program} {l : Launch} {e : Env} {s : State} {m : MethodId} {below : List Frame} {meth : Method} {c : Code} {b0 : Nat} {D : va_G} {cA : ClassId} {ad : Nat → Nat} {k cells slots : Nat} {Q : State → Prop} {g : Nat → Nat → Int32} {z : Nat → Nat} (C : lcx p l s m c cL_law 15 D cA (lwA s)) (hroom : cells + 12 ≤ room_1.cells ∧ slots + 72 ≤ room_1.slots) (hI : inv g z) {x w y t i : Nat} (hy : y < 2000000) (ht : t < 2000000) (hi : i < z 0) (kk : LK p l e s m below meth c b0 D cA ad k (cells + 12) (slots + 72) Q 1286) : ∀ (H : Heap) (locs : List Loc) (ls : Array Slot), va_P D vwCl (rlW cA ad g z) H → va_D (lwA s) (rlW cA ad g z) → va_S (lwA s) s.heap H locs → lv_has ls 15 [(0, .ref (b0)), (1, .ref (ad 70)), (2, .int (nI (z 0))), (3, .int (nI (z 2))), (4, .int (nI k)), (5, .int (nI x)), (6, .int (nI w)), (7, .int (nI y)), (8, .int (nI t)), (9, .int (nI i)), (10, .int (nI i))] → W p l e room_1 s m #[.ref b0] below meth c H locs cells slots Q (F0 m 1073 ls []) := by
  intro H locs ls hP hD hS hl
  have hz0 := hI.hz0
  have hz2 := hI.hz2
  have hs := SRrf hI
  have hsl : ∀ q, q < z 0 → g 23 (q_n (g 22 q)) = g 22 q := hI.self
  have d1 := dgv_le g i i
  refine lv_aload_n C.hx C.hb dL_law_1073 rfl (lv_at hl 1 rfl) ?_
  refine lv_bipush (v := nI 19) C.hx C.hb dL_law_1074 (by decide +kernel) ?_
  refine lv_iload C.hx C.hb dL_law_1076 (lv_at hl 9 rfl) ?_
  refine lv_iload C.hx C.hb dL_law_1078 (lv_at hl 10 rfl) ?_
  refine lv_iconst (v := nI 0) C.hx C.hb dL_law_1080 (by decide +kernel) ?_
  refine lv_iconst (v := nI 0) C.hx C.hb dL_law_1081 (by decide +kernel) ?_
  refine q_cB (w := 19) (p0 := nI i) (p1 := nI i) (p2 := nI 0) (p3 := nI 0) (r := -7000002) (c2 := cells + 1) (s2 := slots + 6) C hP hD hS (rs_kin C.htr (q_r_nI hi) g z hs) hl rfl (Nat.le_of_ble_eq_true rfl) ⟨Nat.le_of_ble_eq_true rfl, Nat.le_of_ble_eq_true rfl⟩ ⟨by omega, by omega⟩ ⟨by omega, by omega⟩ dL_law_1082 (fun g2 z2 H locs hp hP hD hS => ?_)
  have hs2 := hp
  refine lv_istore (lv' := [(11, .int (-7000002)), (0, .ref (b0)), (1, .ref (ad 70)), (2, .int (nI (z 0))), (3, .int (nI (z 2))), (4, .int (nI k)), (5, .int (nI x)), (6, .int (nI w)), (7, .int (nI y)), (8, .int (nI t)), (9, .int (nI i)), (10, .int (nI i))]) C.hx C.hb dL_law_1085 hl (by decide) rfl (fun ls hl => ?_)
  refine lv_aload_n C.hx C.hb dL_law_1087 rfl (lv_at hl 2 rfl) ?_
  refine lv_aload_n C.hx C.hb dL_law_1088 rfl (lv_at hl 2 rfl) ?_
  refine lv_iload C.hx C.hb dL_law_1089 (lv_at hl 10 rfl) ?_
  refine q_cQ (r := nI (q_n (g 22 i))) (As := [.int (nI i)]) C hP hD hS (sq_person hs2 hi) k_X5_person kl_L_58 rfl hl rfl rfl (Nat.le_of_ble_eq_true rfl) ⟨⟨rfl, rfl⟩, Nat.le_of_ble_eq_true rfl, Nat.le_of_ble_eq_true rfl⟩ ⟨by omega, by omega⟩ dL_law_1091 (fun g21 z21 H locs hp hP hD hS => ?_)
  have hs21 := hp
  refine lv_aload_n C.hx C.hb dL_law_1094 rfl (lv_at hl 2 rfl) ?_
  refine lv_iload C.hx C.hb dL_law_1095 (lv_at hl 11 rfl) ?_
  refine q_cQ (r := nI (q_n (g 22 i))) (As := [.int (nI i)]) C hP hD hS (sq_person hs21 hi) k_X5_person kl_L_58 rfl hl rfl rfl (Nat.le_of_ble_eq_true rfl) ⟨⟨rfl, rfl⟩, Nat.le_of_ble_eq_true rfl, Nat.le_of_ble_eq_true rfl⟩ ⟨by omega, by omega⟩ dL_law_1097 (fun g22 z22 H locs hp hP hD hS => ?_)
  have hs22 := hp
  refine q_cQ (r := nI (dgv g i i)) (As := [.int (nI (q_n (g 22 i))), .int (nI (q_n (g 22 i)))]) C hP hD hS (sq_degK hs22 hsl hi hi (Or.inr rfl)) k_X5_degree kl_L_76 rfl hl rfl rfl (Nat.le_of_ble_eq_true rfl) ⟨⟨rfl, rfl⟩, Nat.le_of_ble_eq_true rfl, Nat.le_of_ble_eq_true rfl⟩ ⟨by omega, by omega⟩ dL_law_1100 (fun g23 z23 H locs hp hP hD hS => ?_)
  have hs23 := hp
  refine lv_istore (lv' := [(12, .int (nI (dgv g i i))), (11, .int (-7000002)), (0, .ref (b0)), (1, .ref (ad 70)), (2, .int (nI (z 0))), (3, .int (nI (z 2))), (4, .int (nI k)), (5, .int (nI x)), (6, .int (nI w)), (7, .int (nI y)), (8, .int (nI t)), (9, .int (nI i)), (10, .int (nI i))]) C.hx C.hb dL_law_1103 hl (by decide) rfl (fun ls hl => ?_)
  refine lv_iload C.hx C.hb dL_law_1105 (lv_at hl 1 rfl) ?_
  refine lv_ldc (v := -7000002) C.hx C.hb C.hown (C.hT.use kk_L_93 _) dL_law_1107 ?_
  refine lv_icmp_ne (tgt := 1116) C.hx C.hb dL_law_1109 (by decide) (fun c9 => absurd c9 (by decide +kernel)) (fun _ => ?_)
  refine lv_iconst (v := nI 1) C.hx C.hb dL_law_1112 (by decide +kernel) ?_
  refine lv_goto (tgt := 1117) C.hx C.hb dL_law_1113 (by decide) ?_
  refine lv_iload C.hx C.hb dL_law_1117 (lv_at hl 11 rfl) ?_
  refine lv_iload C.hx C.hb dL_law_1119 (lv_at hl 12 rfl) ?_
  refine lv_icmp_ne (tgt := 1128) C.hx C.hb dL_law_1121 (by decide) (fun c9 => absurd rfl c9) (fun _ => ?_)
  refine lv_iconst (v := nI 1) C.hx C.hb dL_law_1124 (by decide +kernel) ?_
  refine lv_goto (tgt := 1129) C.hx C.hb dL_law_1125 (by decide) ?_
  refine lv_icmp_ne (tgt := 1164) C.hx C.hb dL_law_1129 (by decide) (fun c9 => absurd c9 (by decide +kernel)) (fun _ => ?_)
  refine lv_iload C.hx C.hb dL_law_1132 (lv_at hl 0 rfl) ?_
  refine lv_aload_n C.hx C.hb dL_law_1134 rfl (lv_at hl 3 rfl) ?_
  refine lv_aload_n C.hx C.hb dL_law_1135 rfl (lv_at hl 3 rfl) ?_
  refine lv_iload C.hx C.hb dL_law_1136 (lv_at hl 12 rfl) ?_
  refine q_cQ (r := nI (q_n (g 22 i))) (As := [.int (nI i)]) C hP hD hS (sq_person hs23 hi) k_X5_person kl_L_58 rfl hl rfl rfl (Nat.le_of_ble_eq_true rfl) ⟨⟨rfl, rfl⟩, Nat.le_of_ble_eq_true rfl, Nat.le_of_ble_eq_true rfl⟩ ⟨by omega, by omega⟩ dL_law_1138 (fun g24 z24 H locs hp hP hD hS => ?_)
  have hs24 := hp
  refine lv_aload_n C.hx C.hb dL_law_1141 rfl (lv_at hl 3 rfl) ?_
  refine lv_iload C.hx C.hb dL_law_1142 (lv_at hl 11 rfl) ?_
  refine q_cQ (r := nI (q_n (g 22 i))) (As := [.int (nI i)]) C hP hD hS (sq_person hs24 hi) k_X5_person kl_L_58 rfl hl rfl rfl (Nat.le_of_ble_eq_true rfl) ⟨⟨rfl, rfl⟩, Nat.le_of_ble_eq_true rfl, Nat.le_of_ble_eq_true rfl⟩ ⟨by omega, by omega⟩ dL_law_1144 (fun g25 z25 H locs hp hP hD hS => ?_)
  have hs25 := hp
  refine q_cQ (r := nI (dgv g i i)) (As := [.int (nI (q_n (g 22 i))), .int (nI (q_n (g 22 i)))]) C hP hD hS (sq_degK hs25 hsl hi hi (Or.inr rfl)) k_X5_degree kl_L_76 rfl hl rfl rfl (Nat.le_of_ble_eq_true rfl) ⟨⟨rfl, rfl⟩, Nat.le_of_ble_eq_true rfl, Nat.le_of_ble_eq_true rfl⟩ ⟨by omega, by omega⟩ dL_law_1147 (fun g26 z26 H locs hp hP hD hS => ?_)
  have hs26 := hp
  refine lv_icmp_ne (tgt := 1164) C.hx C.hb dL_law_1150 (by decide) (fun c9 => absurd rfl c9) (fun _ => ?_)
  refine lv_iload C.hx C.hb dL_law_1153 (lv_at hl 0 rfl) ?_
  refine lv_if_lt (tgt := 1164) C.hx C.hb dL_law_1155 (by decide) (fun c9 => absurd c9 (nI_pos (by omega))) (fun _ => ?_)
  refine lv_iload C.hx C.hb dL_law_1158 (lv_at hl 0 rfl) ?_
  refine lv_iconst (v := nI 1) C.hx C.hb dL_law_1160 (by decide +kernel) ?_
  refine lv_icmp_le (tgt := 1166) C.hx C.hb dL_law_1161 (by decide) (fun _ => ?_) (fun c9 => absurd c9 (by rw [nI_leI (by omega) (by omega)]; omega))
  refine lv_goto (tgt := 1286) C.hx C.hb dL_law_1166 (by decide) ?_
  refine W.widen (k := cells + 12) (n := slots + 72) (by omega) (by omega) ?_
  exact kk g26 z26 H locs ls (z 0) (z 2) hs26.2.2.2.2 hs26.2.1 hs26.2.2.2.1  hP hD hS (lv_sub hl [2, 3, 4, 5, 6] rfl)

set_option maxRecDepth 100000 in
set_option maxHeartbeats 4000000 in
theorem lp10_diff {p : Program} {l : Launch} {e : Env} {s : State} {m : MethodId} {below : List Frame} {meth : Method} {c : Code} {b0 : Nat} {D : va_G} {cA : ClassId} {ad : Nat → Nat} {k cells slots : Nat} {Q : State → Prop} {g : Nat → Nat → Int32} {z : Nat → Nat} (C : lcx p l s m c cL_law 15 D cA (lwA s)) (hroom : cells + 12 ≤ room_1.cells ∧ slots + 72 ≤ room_1.slots) (hI : inv g z) {x w y t i j : Nat} (hy : y < 2000000) (ht : t < 2000000) (hi : i < z 0) (hj : j < z 0) (hij : ¬ i = j) (kk : LK p l e s m below meth c b0 D cA ad k (cells + 12) (slots + 72) Q 1286) : ∀ (H : Heap) (locs : List Loc) (ls : Array Slot), va_P D vwCl (rlW cA ad g z) H → va_D (lwA s) (rlW cA ad g z) → va_S (lwA s) s.heap H locs → lv_has ls 15 [(0, .ref (b0)), (1, .ref (ad 70)), (2, .int (nI (z 0))), (3, .int (nI (z 2))), (4, .int (nI k)), (5, .int (nI x)), (6, .int (nI w)), (7, .int (nI y)), (8, .int (nI t)), (9, .int (nI i)), (10, .int (nI j))] → W p l e room_1 s m #[.ref b0] below meth c H locs cells slots Q (F0 m 1073 ls []) := by
  intro H locs ls hP hD hS hl
  have hz0 := hI.hz0
  have hz2 := hI.hz2
  have hs := SRrf hI
  refine lv_aload_n C.hx C.hb dL_law_1073 rfl (lv_at hl 1 rfl) ?_
  refine lv_bipush (v := nI 19) C.hx C.hb dL_law_1074 (by decide +kernel) ?_
  refine lv_iload C.hx C.hb dL_law_1076 (lv_at hl 9 rfl) ?_
  refine lv_iload C.hx C.hb dL_law_1078 (lv_at hl 10 rfl) ?_
  refine lv_iconst (v := nI 0) C.hx C.hb dL_law_1080 (by decide +kernel) ?_
  refine lv_iconst (v := nI 0) C.hx C.hb dL_law_1081 (by decide +kernel) ?_
  refine q_cB (w := 19) (p0 := nI i) (p1 := nI j) (p2 := nI 0) (p3 := nI 0) (r := q_b (hasB (g 11 i) (nI j))) (c2 := cells + 1) (s2 := slots + 6) C hP hD hS (sm_kin hI hi hj hij (nI 0) (nI 0)) hl rfl (Nat.le_of_ble_eq_true rfl) ⟨Nat.le_of_ble_eq_true rfl, Nat.le_of_ble_eq_true rfl⟩ ⟨by omega, by omega⟩ ⟨by omega, by omega⟩ dL_law_1082 (fun g2 z2 H locs hp hP hD hS => ?_)
  obtain ⟨hI2, e02, e22, ⟨f1, f2⟩⟩ := hp
  have hs2 : SR g2 (z 0) (z2 1) (z 2) g2 z2 := by have q := SRrf hI2; rw [e02, e22] at q; exact q
  have hsl : ∀ q, q < z 0 → g2 23 (q_n (g2 22 q)) = g2 22 q := by rw [← e02]; exact hI2.self
  have d1 := dgv_le g2 i j
  have d2 := dgv_sy g2 i j
  refine lv_istore (lv' := [(11, .int (q_b (hasB (g 11 i) (nI j)))), (0, .ref (b0)), (1, .ref (ad 70)), (2, .int (nI (z 0))), (3, .int (nI (z 2))), (4, .int (nI k)), (5, .int (nI x)), (6, .int (nI w)), (7, .int (nI y)), (8, .int (nI t)), (9, .int (nI i)), (10, .int (nI j))]) C.hx C.hb dL_law_1085 hl (by decide) rfl (fun ls hl => ?_)
  refine lv_aload_n C.hx C.hb dL_law_1087 rfl (lv_at hl 2 rfl) ?_
  refine lv_aload_n C.hx C.hb dL_law_1088 rfl (lv_at hl 2 rfl) ?_
  refine lv_iload C.hx C.hb dL_law_1089 (lv_at hl 10 rfl) ?_
  refine q_cQ (r := nI (q_n (g2 22 i))) (As := [.int (nI i)]) C hP hD hS (sq_person hs2 hi) k_X5_person kl_L_58 rfl hl rfl rfl (Nat.le_of_ble_eq_true rfl) ⟨⟨rfl, rfl⟩, Nat.le_of_ble_eq_true rfl, Nat.le_of_ble_eq_true rfl⟩ ⟨by omega, by omega⟩ dL_law_1091 (fun g21 z21 H locs hp hP hD hS => ?_)
  have hs21 := hp
  refine lv_aload_n C.hx C.hb dL_law_1094 rfl (lv_at hl 2 rfl) ?_
  refine lv_iload C.hx C.hb dL_law_1095 (lv_at hl 11 rfl) ?_
  refine q_cQ (r := nI (q_n (g2 22 j))) (As := [.int (nI j)]) C hP hD hS (sq_person hs21 hj) k_X5_person kl_L_58 rfl hl rfl rfl (Nat.le_of_ble_eq_true rfl) ⟨⟨rfl, rfl⟩, Nat.le_of_ble_eq_true rfl, Nat.le_of_ble_eq_true rfl⟩ ⟨by omega, by omega⟩ dL_law_1097 (fun g22 z22 H locs hp hP hD hS => ?_)
  have hs22 := hp
  refine q_cQ (r := nI (dgv g2 i j)) (As := [.int (nI (q_n (g2 22 i))), .int (nI (q_n (g2 22 j)))]) C hP hD hS (sq_degK hs22 hsl hi hj (Or.inl f1)) k_X5_degree kl_L_76 rfl hl rfl rfl (Nat.le_of_ble_eq_true rfl) ⟨⟨rfl, rfl⟩, Nat.le_of_ble_eq_true rfl, Nat.le_of_ble_eq_true rfl⟩ ⟨by omega, by omega⟩ dL_law_1100 (fun g23 z23 H locs hp hP hD hS => ?_)
  have hs23 := hp
  refine lv_istore (lv' := [(12, .int (nI (dgv g2 i j))), (11, .int (q_b (hasB (g 11 i) (nI j)))), (0, .ref (b0)), (1, .ref (ad 70)), (2, .int (nI (z 0))), (3, .int (nI (z 2))), (4, .int (nI k)), (5, .int (nI x)), (6, .int (nI w)), (7, .int (nI y)), (8, .int (nI t)), (9, .int (nI i)), (10, .int (nI j))]) C.hx C.hb dL_law_1103 hl (by decide) rfl (fun ls hl => ?_)
  refine lv_iload C.hx C.hb dL_law_1105 (lv_at hl 1 rfl) ?_
  refine lv_ldc (v := -7000002) C.hx C.hb C.hown (C.hT.use kk_L_93 _) dL_law_1107 ?_
  refine lv_icmp_ne (tgt := 1116) C.hx C.hb dL_law_1109 (by decide) (fun _ => ?_) (fun c9 => absurd c9 (qbne gI2 _))
  refine lv_iconst (v := nI 0) C.hx C.hb dL_law_1116 (by decide +kernel) ?_
  refine lv_iload C.hx C.hb dL_law_1117 (lv_at hl 11 rfl) ?_
  refine lv_iload C.hx C.hb dL_law_1119 (lv_at hl 12 rfl) ?_
  refine lv_icmp_ne (tgt := 1128) C.hx C.hb dL_law_1121 (by decide) (fun _ => ?_) (fun c9 => absurd c9 (by rw [nI_eq (by omega) (by omega)]; omega))
  refine lv_iconst (v := nI 0) C.hx C.hb dL_law_1128 (by decide +kernel) ?_
  refine lv_icmp_ne (tgt := 1164) C.hx C.hb dL_law_1129 (by decide) (fun c9 => absurd c9 (by decide +kernel)) (fun _ => ?_)
  refine lv_iload C.hx C.hb dL_law_1132 (lv_at hl 0 rfl) ?_
  refine lv_aload_n C.hx C.hb dL_law_1134 rfl (lv_at hl 3 rfl) ?_
  refine lv_aload_n C.hx C.hb dL_law_1135 rfl (lv_at hl 3 rfl) ?_
  refine lv_iload C.hx C.hb dL_law_1136 (lv_at hl 12 rfl) ?_
  refine q_cQ (r := nI (q_n (g2 22 j))) (As := [.int (nI j)]) C hP hD hS (sq_person hs23 hj) k_X5_person kl_L_58 rfl hl rfl rfl (Nat.le_of_ble_eq_true rfl) ⟨⟨rfl, rfl⟩, Nat.le_of_ble_eq_true rfl, Nat.le_of_ble_eq_true rfl⟩ ⟨by omega, by omega⟩ dL_law_1138 (fun g24 z24 H locs hp hP hD hS => ?_)
  have hs24 := hp
  refine lv_aload_n C.hx C.hb dL_law_1141 rfl (lv_at hl 3 rfl) ?_
  refine lv_iload C.hx C.hb dL_law_1142 (lv_at hl 11 rfl) ?_
  refine q_cQ (r := nI (q_n (g2 22 i))) (As := [.int (nI i)]) C hP hD hS (sq_person hs24 hi) k_X5_person kl_L_58 rfl hl rfl rfl (Nat.le_of_ble_eq_true rfl) ⟨⟨rfl, rfl⟩, Nat.le_of_ble_eq_true rfl, Nat.le_of_ble_eq_true rfl⟩ ⟨by omega, by omega⟩ dL_law_1144 (fun g25 z25 H locs hp hP hD hS => ?_)
  have hs25 := hp
  refine q_cQ (r := nI (dgv g2 j i)) (As := [.int (nI (q_n (g2 22 j))), .int (nI (q_n (g2 22 i)))]) C hP hD hS (sq_degK hs25 hsl hj hi (Or.inl f2)) k_X5_degree kl_L_76 rfl hl rfl rfl (Nat.le_of_ble_eq_true rfl) ⟨⟨rfl, rfl⟩, Nat.le_of_ble_eq_true rfl, Nat.le_of_ble_eq_true rfl⟩ ⟨by omega, by omega⟩ dL_law_1147 (fun g26 z26 H locs hp hP hD hS => ?_)
  have hs26 := hp
  refine lv_icmp_ne (tgt := 1164) C.hx C.hb dL_law_1150 (by decide) (fun c9 => absurd c9 (by rw [nI_eq (by omega) (by omega)]; omega)) (fun _ => ?_)
  refine lv_iload C.hx C.hb dL_law_1153 (lv_at hl 0 rfl) ?_
  refine lv_if_lt (tgt := 1164) C.hx C.hb dL_law_1155 (by decide) (fun c9 => absurd c9 (nI_pos (by omega))) (fun _ => ?_)
  refine lv_iload C.hx C.hb dL_law_1158 (lv_at hl 0 rfl) ?_
  refine lv_iconst (v := nI 1) C.hx C.hb dL_law_1160 (by decide +kernel) ?_
  refine lv_icmp_le (tgt := 1166) C.hx C.hb dL_law_1161 (by decide) (fun _ => ?_) (fun c9 => absurd c9 (by rw [nI_leI (by omega) (by omega)]; omega))
  refine lv_goto (tgt := 1286) C.hx C.hb dL_law_1166 (by decide) ?_
  refine W.widen (k := cells + 12) (n := slots + 72) (by omega) (by omega) ?_
  exact kk g26 z26 H locs ls (z 0) (z 2) hs26.2.2.2.2 hs26.2.1 hs26.2.2.2.1  hP hD hS (lv_sub hl [2, 3, 4, 5, 6] rfl)

set_option maxRecDepth 100000 in
set_option maxHeartbeats 4000000 in
theorem lp9_c {p : Program} {l : Launch} {e : Env} {s : State} {m : MethodId} {below : List Frame} {meth : Method} {c : Code} {b0 : Nat} {D : va_G} {cA : ClassId} {ad : Nat → Nat} {k cells slots : Nat} {Q : State → Prop} {g : Nat → Nat → Int32} {z : Nat → Nat} (C : lcx p l s m c cL_law 15 D cA (lwA s)) (hroom : cells + 12 ≤ room_1.cells ∧ slots + 72 ≤ room_1.slots) (hI : inv g z) {i j : Nat} (hi : i < z 0) (hj : j < z 0) (kk : LK p l e s m below meth c b0 D cA ad k (cells + 12) (slots + 72) Q 1286) : ∀ (H : Heap) (locs : List Loc) (ls : Array Slot), va_P D vwCl (rlW cA ad g z) H → va_D (lwA s) (rlW cA ad g z) → va_S (lwA s) s.heap H locs → lv_has ls 15 [(0, .ref (b0)), (1, .ref (ad 70)), (2, .int (nI (z 0))), (3, .int (nI (z 2))), (4, .int (nI k)), (9, .int (nI i)), (10, .int (nI j)), (11, .int (nI (q_n (g 22 i))))] → W p l e room_1 s m #[.ref b0] below meth c H locs cells slots Q (F0 m 1027 ls []) := by
  intro H locs ls hP hD hS hl
  have hz0 := hI.hz0
  have hz2 := hI.hz2
  have hs := SRrf hI
  have e23 := hI.self i hi
  have eqj := (hI.own j hj).eq (by omega)
  have b1 := (hI.own i hi).lt (by omega)
  have b2 := (hI.own j hj).lt (by omega)
  obtain ⟨gb, zb, nn, hnn, c5, hsb⟩ := sq_breaches (l := l) (D := D) (cA := cA) (ad := ad) hs b1
  rw [e23] at hnn
  have h1c := lay_cnt (g := g) (w := g 22 i) (z 0)
  have h2c := cnt_pos (f := g 22) (w := g 22 i) rfl (z 0) hi
  have h3c := cntN_le (g 22) (g 22 i) (z 0)
  refine lv_aload_n C.hx C.hb dL_law_1027 rfl (lv_at hl 1 rfl) ?_
  refine lv_iload C.hx C.hb dL_law_1028 (lv_at hl 7 rfl) ?_
  refine q_cQ (r := nI nn) (As := [.int (nI (q_n (g 22 i)))]) C hP hD hS (⟨gb, zb, c5, hsb⟩) k_X5_breaches kl_L_70 rfl hl rfl rfl (Nat.le_of_ble_eq_true rfl) ⟨⟨rfl, rfl⟩, Nat.le_of_ble_eq_true rfl, Nat.le_of_ble_eq_true rfl⟩ ⟨by omega, by omega⟩ dL_law_1030 (fun g3 z3 H locs hp hP hD hS => ?_)
  have hs3 := hp
  refine lv_aload_n C.hx C.hb dL_law_1033 rfl (lv_at hl 1 rfl) ?_
  refine lv_iload C.hx C.hb dL_law_1034 (lv_at hl 7 rfl) ?_
  refine q_cQ (r := nI (cntN (g 22) (g 22 i) (z 0))) (As := [.int (nI (q_n (g 22 i)))]) C hP hD hS ((by obtain ⟨ga, za, ca, ha⟩ := sq_size (l := l) (D := D) (cA := cA) (ad := ad) hs3 b1; exact ⟨ga, za, q_CIr ca (by rw [e23]), ha⟩)) k_X5_size kl_L_64 rfl hl rfl rfl (Nat.le_of_ble_eq_true rfl) ⟨⟨rfl, rfl⟩, Nat.le_of_ble_eq_true rfl, Nat.le_of_ble_eq_true rfl⟩ ⟨by omega, by omega⟩ dL_law_1036 (fun g4 z4 H locs hp hP hD hS => ?_)
  have hs4 := hp
  refine lv_icmp_ge (tgt := 1061) C.hx C.hb dL_law_1039 (by decide) (fun c9 => absurd c9 (by rw [nI_leI (by omega) (by omega)]; omega)) (fun _ => ?_)
  refine lv_aload_n C.hx C.hb dL_law_1042 rfl (lv_at hl 1 rfl) ?_
  refine lv_aload_n C.hx C.hb dL_law_1043 rfl (lv_at hl 1 rfl) ?_
  refine lv_iload C.hx C.hb dL_law_1044 (lv_at hl 6 rfl) ?_
  refine q_cQ (r := nI (q_n (g 22 j))) (As := [.int (nI j)]) C hP hD hS (sq_person hs4 hj) k_X5_person kl_L_58 rfl hl rfl rfl (Nat.le_of_ble_eq_true rfl) ⟨⟨rfl, rfl⟩, Nat.le_of_ble_eq_true rfl, Nat.le_of_ble_eq_true rfl⟩ ⟨by omega, by omega⟩ dL_law_1046 (fun g5 z5 H locs hp hP hD hS => ?_)
  have hs5 := hp
  refine q_cQ (r := nI (q_n (g 22 j))) (As := [.int (nI (q_n (g 22 j)))]) C hP hD hS ((by obtain ⟨ga, za, ca, ha⟩ := sq_entry (l := l) (D := D) (cA := cA) (ad := ad) hs5 b2; exact ⟨ga, za, q_CIr ca ((hI.self j hj).trans eqj), ha⟩)) k_X5_entry kl_L_61 rfl hl rfl rfl (Nat.le_of_ble_eq_true rfl) ⟨⟨rfl, rfl⟩, Nat.le_of_ble_eq_true rfl, Nat.le_of_ble_eq_true rfl⟩ ⟨by omega, by omega⟩ dL_law_1049 (fun g6 z6 H locs hp hP hD hS => ?_)
  have hs6 := hp
  refine lv_aload_n C.hx C.hb dL_law_1052 rfl (lv_at hl 1 rfl) ?_
  refine lv_iload C.hx C.hb dL_law_1053 (lv_at hl 6 rfl) ?_
  refine q_cQ (r := nI (q_n (g 22 j))) (As := [.int (nI j)]) C hP hD hS (sq_person hs6 hj) k_X5_person kl_L_58 rfl hl rfl rfl (Nat.le_of_ble_eq_true rfl) ⟨⟨rfl, rfl⟩, Nat.le_of_ble_eq_true rfl, Nat.le_of_ble_eq_true rfl⟩ ⟨by omega, by omega⟩ dL_law_1055 (fun g7 z7 H locs hp hP hD hS => ?_)
  have hs7 := hp
  refine lv_icmp_eq (tgt := 1063) C.hx C.hb dL_law_1058 (by decide) (fun _ => ?_) (fun c9 => absurd rfl c9)
  refine lv_goto (tgt := 1286) C.hx C.hb dL_law_1063 (by decide) ?_
  refine W.widen (k := cells + 12) (n := slots + 72) (by omega) (by omega) ?_
  exact kk g7 z7 H locs ls (z 0) (z 2) hs7.2.2.2.2 hs7.2.1 hs7.2.2.2.1  hP hD hS (lv_sub hl [0, 1, 2, 3, 4] rfl)

set_option maxRecDepth 100000 in
set_option maxHeartbeats 4000000 in
theorem lp11_few {p : Program} {l : Launch} {e : Env} {s : State} {m : MethodId} {below : List Frame} {meth : Method} {c : Code} {b0 : Nat} {D : va_G} {cA : ClassId} {ad : Nat → Nat} {k cells slots : Nat} {Q : State → Prop} {g : Nat → Nat → Int32} {z : Nat → Nat} (C : lcx p l s m c cL_law 15 D cA (lwA s)) (hroom : cells + 12 ≤ room_1.cells ∧ slots + 72 ≤ room_1.slots) (hI : inv g z) {nn : Nat} (hn : nn < 2 ^ z 0) (h6 : pcN nn ≤ 6) (kk : LK p l e s m below meth c b0 D cA ad k (cells + 12) (slots + 72) Q 1286) : ∀ (H : Heap) (locs : List Loc) (ls : Array Slot), va_P D vwCl (rlW cA ad g z) H → va_D (lwA s) (rlW cA ad g z) → va_S (lwA s) s.heap H locs → lv_has ls 15 [(0, .ref (b0)), (1, .ref (ad 70)), (2, .int (nI (z 0))), (3, .int (nI (z 2))), (4, .int (nI k)), (11, .int (nI nn)), (12, .int (nI (pcN nn)))] → W p l e room_1 s m #[.ref b0] below meth c H locs cells slots Q (F0 m 1207 ls []) := by
  intro H locs ls hP hD hS hl
  have hz0 := hI.hz0
  have hz2 := hI.hz2
  have hs := SRrf hI
  have hpc : pcN nn ≤ 63 := Nat.and_le_right
  have hdf := dfO_120 (g := g) hz0
  have hb0 := (best_ok (g := g) (g' := g) (p1 := fun _ => nI 0) (p2 := fun _ => nI 0) (gw := fun _ => nI 0) (be := fun _ => nI 0) (p1' := fun _ => nI 0) (p2' := fun _ => nI 0) (gw' := fun _ => nI 0) (be' := fun _ => nI 0) hn hz0 h6 rfl rfl rfl rfl rfl rfl).2.2
  obtain ⟨bb, hbb, ebb⟩ : ∃ q, q < 2147483648 ∧ nI q = bpB (lpO (wopM g (lopM (nI nn) (fun _ => nI 0) (z 0))) (fun _ => nI 0) (bitC (nI nn) (z 0)) (bitC (nI nn) (z 0))) (fun _ => nI 0) (fun _ => nI 0) (bitC (nI nn) (z 0)) (2 ^ (bitC (nI nn) (z 0)) - 1) (2 ^ (bitC (nI nn) (z 0)) - 1) := by obtain ⟨q, q1, q2⟩ := nI_of (x := bpB (lpO (wopM g (lopM (nI nn) (fun _ => nI 0) (z 0))) (fun _ => nI 0) (bitC (nI nn) (z 0)) (bitC (nI nn) (z 0))) (fun _ => nI 0) (fun _ => nI 0) (bitC (nI nn) (z 0)) (2 ^ (bitC (nI nn) (z 0)) - 1) (2 ^ (bitC (nI nn) (z 0)) - 1)) (fun q => by have := zz_lt.1 q; rw [show (0 : Int32).toInt = 0 from rfl] at this; omega); exact ⟨q, q1, q2.symm⟩
  refine lv_aload_n C.hx C.hb dL_law_1207 rfl (lv_at hl 1 rfl) ?_
  refine lv_bipush (v := nI 21) C.hx C.hb dL_law_1208 (by decide +kernel) ?_
  refine lv_iload C.hx C.hb dL_law_1210 (lv_at hl 5 rfl) ?_
  refine lv_iconst (v := nI 0) C.hx C.hb dL_law_1212 (by decide +kernel) ?_
  refine lv_iconst (v := nI 0) C.hx C.hb dL_law_1213 (by decide +kernel) ?_
  refine lv_iconst (v := nI 0) C.hx C.hb dL_law_1214 (by decide +kernel) ?_
  refine q_cB (w := 21) (p0 := nI nn) (p1 := nI 0) (p2 := nI 0) (p3 := nI 0) (r := nI bb) (c2 := cells + 1) (s2 := slots + 6) C hP hD hS (sa_best hs hn h6 ebb (nI 0) (nI 0) (nI 0)) hl rfl (Nat.le_of_ble_eq_true rfl) ⟨Nat.le_of_ble_eq_true rfl, Nat.le_of_ble_eq_true rfl⟩ ⟨by omega, by omega⟩ ⟨by omega, by omega⟩ dL_law_1215 (fun g2 z2 H locs hp hP hD hS => ?_)
  have hs2 := hp
  refine lv_istore (lv' := [(13, .int (nI bb)), (0, .ref (b0)), (1, .ref (ad 70)), (2, .int (nI (z 0))), (3, .int (nI (z 2))), (4, .int (nI k)), (11, .int (nI nn)), (12, .int (nI (pcN nn)))]) C.hx C.hb dL_law_1218 hl (by decide) rfl (fun ls hl => ?_)
  refine lv_iload C.hx C.hb dL_law_1220 (lv_at hl 0 rfl) ?_
  refine lv_aload_n C.hx C.hb dL_law_1222 rfl (lv_at hl 2 rfl) ?_
  refine lv_bipush (v := nI 22) C.hx C.hb dL_law_1223 (by decide +kernel) ?_
  refine lv_iload C.hx C.hb dL_law_1225 (lv_at hl 6 rfl) ?_
  refine lv_iconst (v := nI 0) C.hx C.hb dL_law_1227 (by decide +kernel) ?_
  refine lv_iconst (v := nI 0) C.hx C.hb dL_law_1228 (by decide +kernel) ?_
  refine lv_iconst (v := nI 0) C.hx C.hb dL_law_1229 (by decide +kernel) ?_
  refine q_cB (w := 22) (p0 := nI nn) (p1 := nI 0) (p2 := nI 0) (p3 := nI 0) (r := nI bb) (c2 := cells + 2) (s2 := slots + 12) C hP hD hS (sa_bestAnew hs2 hn h6 ebb (nI 0) (nI 0) (nI 0)) hl rfl (Nat.le_of_ble_eq_true rfl) ⟨Nat.le_of_ble_eq_true rfl, Nat.le_of_ble_eq_true rfl⟩ ⟨by omega, by omega⟩ ⟨by omega, by omega⟩ dL_law_1230 (fun g3 z3 H locs hp hP hD hS => ?_)
  have hs3 := hp
  refine lv_icmp_ne (tgt := 1284) C.hx C.hb dL_law_1233 (by decide) (fun c9 => absurd rfl c9) (fun _ => ?_)
  refine lv_iload C.hx C.hb dL_law_1236 (lv_at hl 0 rfl) ?_
  refine lv_ldc (v := -7000002) C.hx C.hb C.hown (C.hT.use kk_L_93 _) dL_law_1238 ?_
  refine lv_icmp_ne (tgt := 1247) C.hx C.hb dL_law_1240 (by decide) (fun _ => ?_) (fun c9 => absurd c9 (nnegE gI2 (by omega)))
  refine lv_iconst (v := nI 0) C.hx C.hb dL_law_1247 (by decide +kernel) ?_
  refine lv_iload C.hx C.hb dL_law_1248 (lv_at hl 7 rfl) ?_
  refine lv_bipush (v := nI 6) C.hx C.hb dL_law_1250 (by decide +kernel) ?_
  refine lv_icmp_le (tgt := 1259) C.hx C.hb dL_law_1252 (by decide) (fun _ => ?_) (fun c9 => absurd c9 (by rw [nI_leI (by omega) (by omega)]; omega))
  refine lv_iconst (v := nI 0) C.hx C.hb dL_law_1259 (by decide +kernel) ?_
  refine lv_icmp_ne (tgt := 1284) C.hx C.hb dL_law_1260 (by decide) (fun c9 => absurd c9 (by decide +kernel)) (fun _ => ?_)
  refine lv_iload C.hx C.hb dL_law_1263 (lv_at hl 7 rfl) ?_
  refine lv_bipush (v := nI 7) C.hx C.hb dL_law_1265 (by decide +kernel) ?_
  refine lv_icmp_ge (tgt := 1275) C.hx C.hb dL_law_1267 (by decide) (fun c9 => absurd c9 (by rw [nI_leI (by omega) (by omega)]; omega)) (fun _ => ?_)
  refine lv_iload C.hx C.hb dL_law_1270 (lv_at hl 0 rfl) ?_
  refine lv_if_lt (tgt := 1284) C.hx C.hb dL_law_1272 (by decide) (fun c9 => absurd c9 (nI_pos (by omega))) (fun _ => ?_)
  refine lv_aload_n C.hx C.hb dL_law_1275 rfl (lv_at hl 2 rfl) ?_
  refine q_cQ (r := nI (dfO g (z 0) (z 0))) (As := []) C hP hD hS (sq_differ hs3) k_X5_differ kl_L_98 rfl hl rfl rfl (Nat.le_of_ble_eq_true rfl) ⟨⟨rfl, rfl⟩, Nat.le_of_ble_eq_true rfl, Nat.le_of_ble_eq_true rfl⟩ ⟨by omega, by omega⟩ dL_law_1276 (fun g4 z4 H locs hp hP hD hS => ?_)
  have hs4 := hp
  refine lv_bipush (v := nI 120) C.hx C.hb dL_law_1279 (by decide +kernel) ?_
  refine lv_icmp_le (tgt := 1286) C.hx C.hb dL_law_1281 (by decide) (fun _ => ?_) (fun c9 => absurd c9 (by rw [nI_leI (by omega) (by omega)]; omega))
  refine W.widen (k := cells + 12) (n := slots + 72) (by omega) (by omega) ?_
  exact kk g4 z4 H locs ls (z 0) (z 2) hs4.2.2.2.2 hs4.2.1 hs4.2.2.2.1  hP hD hS (lv_sub hl [1, 2, 3, 4, 5] rfl)

set_option maxRecDepth 100000 in
set_option maxHeartbeats 4000000 in
theorem lp11_many {p : Program} {l : Launch} {e : Env} {s : State} {m : MethodId} {below : List Frame} {meth : Method} {c : Code} {b0 : Nat} {D : va_G} {cA : ClassId} {ad : Nat → Nat} {k cells slots : Nat} {Q : State → Prop} {g : Nat → Nat → Int32} {z : Nat → Nat} (C : lcx p l s m c cL_law 15 D cA (lwA s)) (hroom : cells + 12 ≤ room_1.cells ∧ slots + 72 ≤ room_1.slots) (hI : inv g z) {nn : Nat} (hn : nn < 2 ^ z 0) (h6 : ¬ pcN nn ≤ 6) (kk : LK p l e s m below meth c b0 D cA ad k (cells + 12) (slots + 72) Q 1286) : ∀ (H : Heap) (locs : List Loc) (ls : Array Slot), va_P D vwCl (rlW cA ad g z) H → va_D (lwA s) (rlW cA ad g z) → va_S (lwA s) s.heap H locs → lv_has ls 15 [(0, .ref (b0)), (1, .ref (ad 70)), (2, .int (nI (z 0))), (3, .int (nI (z 2))), (4, .int (nI k)), (11, .int (nI nn)), (12, .int (nI (pcN nn)))] → W p l e room_1 s m #[.ref b0] below meth c H locs cells slots Q (F0 m 1207 ls []) := by
  intro H locs ls hP hD hS hl
  have hz0 := hI.hz0
  have hz2 := hI.hz2
  have hs := SRrf hI
  have hpc : pcN nn ≤ 63 := Nat.and_le_right
  have hdf := dfO_120 (g := g) hz0
  refine lv_aload_n C.hx C.hb dL_law_1207 rfl (lv_at hl 1 rfl) ?_
  refine lv_bipush (v := nI 21) C.hx C.hb dL_law_1208 (by decide +kernel) ?_
  refine lv_iload C.hx C.hb dL_law_1210 (lv_at hl 5 rfl) ?_
  refine lv_iconst (v := nI 0) C.hx C.hb dL_law_1212 (by decide +kernel) ?_
  refine lv_iconst (v := nI 0) C.hx C.hb dL_law_1213 (by decide +kernel) ?_
  refine lv_iconst (v := nI 0) C.hx C.hb dL_law_1214 (by decide +kernel) ?_
  refine q_cB (w := 21) (p0 := nI nn) (p1 := nI 0) (p2 := nI 0) (p3 := nI 0) (r := -7000002) (c2 := cells + 1) (s2 := slots + 6) C hP hD hS (ru_best C.htr hn (by omega) g z hs) hl rfl (Nat.le_of_ble_eq_true rfl) ⟨Nat.le_of_ble_eq_true rfl, Nat.le_of_ble_eq_true rfl⟩ ⟨by omega, by omega⟩ ⟨by omega, by omega⟩ dL_law_1215 (fun g2 z2 H locs hp hP hD hS => ?_)
  have hs2 := hp
  refine lv_istore (lv' := [(13, .int (-7000002)), (0, .ref (b0)), (1, .ref (ad 70)), (2, .int (nI (z 0))), (3, .int (nI (z 2))), (4, .int (nI k)), (11, .int (nI nn)), (12, .int (nI (pcN nn)))]) C.hx C.hb dL_law_1218 hl (by decide) rfl (fun ls hl => ?_)
  refine lv_iload C.hx C.hb dL_law_1220 (lv_at hl 0 rfl) ?_
  refine lv_aload_n C.hx C.hb dL_law_1222 rfl (lv_at hl 2 rfl) ?_
  refine lv_bipush (v := nI 22) C.hx C.hb dL_law_1223 (by decide +kernel) ?_
  refine lv_iload C.hx C.hb dL_law_1225 (lv_at hl 6 rfl) ?_
  refine lv_iconst (v := nI 0) C.hx C.hb dL_law_1227 (by decide +kernel) ?_
  refine lv_iconst (v := nI 0) C.hx C.hb dL_law_1228 (by decide +kernel) ?_
  refine lv_iconst (v := nI 0) C.hx C.hb dL_law_1229 (by decide +kernel) ?_
  refine q_cB (w := 22) (p0 := nI nn) (p1 := nI 0) (p2 := nI 0) (p3 := nI 0) (r := -7000002) (c2 := cells + 2) (s2 := slots + 12) C hP hD hS (ru_bestAnew C.htr hn (by omega) g2 z2 hs2) hl rfl (Nat.le_of_ble_eq_true rfl) ⟨Nat.le_of_ble_eq_true rfl, Nat.le_of_ble_eq_true rfl⟩ ⟨by omega, by omega⟩ ⟨by omega, by omega⟩ dL_law_1230 (fun g3 z3 H locs hp hP hD hS => ?_)
  have hs3 := hp
  refine lv_icmp_ne (tgt := 1284) C.hx C.hb dL_law_1233 (by decide) (fun c9 => absurd c9 (by decide +kernel)) (fun _ => ?_)
  refine lv_iload C.hx C.hb dL_law_1236 (lv_at hl 0 rfl) ?_
  refine lv_ldc (v := -7000002) C.hx C.hb C.hown (C.hT.use kk_L_93 _) dL_law_1238 ?_
  refine lv_icmp_ne (tgt := 1247) C.hx C.hb dL_law_1240 (by decide) (fun c9 => absurd c9 (by decide +kernel)) (fun _ => ?_)
  refine lv_iconst (v := nI 1) C.hx C.hb dL_law_1243 (by decide +kernel) ?_
  refine lv_goto (tgt := 1248) C.hx C.hb dL_law_1244 (by decide) ?_
  refine lv_iload C.hx C.hb dL_law_1248 (lv_at hl 7 rfl) ?_
  refine lv_bipush (v := nI 6) C.hx C.hb dL_law_1250 (by decide +kernel) ?_
  refine lv_icmp_le (tgt := 1259) C.hx C.hb dL_law_1252 (by decide) (fun c9 => absurd c9 (by rw [nI_leI (by omega) (by omega)]; omega)) (fun _ => ?_)
  refine lv_iconst (v := nI 1) C.hx C.hb dL_law_1255 (by decide +kernel) ?_
  refine lv_goto (tgt := 1260) C.hx C.hb dL_law_1256 (by decide) ?_
  refine lv_icmp_ne (tgt := 1284) C.hx C.hb dL_law_1260 (by decide) (fun c9 => absurd c9 (by decide +kernel)) (fun _ => ?_)
  refine lv_iload C.hx C.hb dL_law_1263 (lv_at hl 7 rfl) ?_
  refine lv_bipush (v := nI 7) C.hx C.hb dL_law_1265 (by decide +kernel) ?_
  refine lv_icmp_ge (tgt := 1275) C.hx C.hb dL_law_1267 (by decide) (fun _ => ?_) (fun c9 => absurd c9 (by rw [nI_leI (by omega) (by omega)]; omega))
  refine lv_aload_n C.hx C.hb dL_law_1275 rfl (lv_at hl 2 rfl) ?_
  refine q_cQ (r := nI (dfO g (z 0) (z 0))) (As := []) C hP hD hS (sq_differ hs3) k_X5_differ kl_L_98 rfl hl rfl rfl (Nat.le_of_ble_eq_true rfl) ⟨⟨rfl, rfl⟩, Nat.le_of_ble_eq_true rfl, Nat.le_of_ble_eq_true rfl⟩ ⟨by omega, by omega⟩ dL_law_1276 (fun g4 z4 H locs hp hP hD hS => ?_)
  have hs4 := hp
  refine lv_bipush (v := nI 120) C.hx C.hb dL_law_1279 (by decide +kernel) ?_
  refine lv_icmp_le (tgt := 1286) C.hx C.hb dL_law_1281 (by decide) (fun _ => ?_) (fun c9 => absurd c9 (by rw [nI_leI (by omega) (by omega)]; omega))
  refine W.widen (k := cells + 12) (n := slots + 72) (by omega) (by omega) ?_
  exact kk g4 z4 H locs ls (z 0) (z 2) hs4.2.2.2.2 hs4.2.1 hs4.2.2.2.1  hP hD hS (lv_sub hl [1, 2, 3, 4, 5] rfl)
