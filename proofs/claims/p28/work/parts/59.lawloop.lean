/-! the law's loop: its cases together -/
set_option maxRecDepth 100000 in
set_option maxHeartbeats 4000000 in
theorem lc0 {p : Program} {l : Launch} {e : Env} {s : State} {m : MethodId} {below : List Frame} {meth : Method} {c : Code} {b0 : Nat} {D : va_G} {cA : ClassId} {ad : Nat → Nat} {k cells slots : Nat} {Q : State → Prop} {g : Nat → Nat → Int32} {z : Nat → Nat} (C : lcx p l s m c cL_law 15 D cA (lwA s)) (hroom : cells + 12 ≤ room_1.cells ∧ slots + 72 ≤ room_1.slots) (hI : inv g z) {x w y t : Nat} (hy : y < 2000000) (ht : t < 2000000) (kk5 : LK p l e s m below meth c b0 D cA ad k (cells + 12) (slots + 72) Q 1305) : ∀ (H : Heap) (locs : List Loc) (ls : Array Slot), va_P D vwCl (rlW cA ad g z) H → va_D (lwA s) (rlW cA ad g z) → va_S (lwA s) s.heap H locs → lv_has ls 15 [(0, .ref b0), (1, .ref (ad 70)), (2, .int (nI (z 0))), (3, .int (nI (z 2))), (4, .int (nI k)), (5, .int (nI x)), (6, .int (nI w)), (7, .int (nI y)), (8, .int (nI t))] → W p l e room_1 s m #[.ref b0] below meth c H locs cells slots Q (F0 m 86 ls []) := by
  by_cases h1 : z 0 < 16
  · by_cases h2 : z 2 < 40
    · exact lp0_ok C hroom hI hy ht h1 h2 kk5
    · exact lp0_40 C hroom hI hy ht h1 h2 kk5
  · exact lp0_16 C hroom hI hy ht h1 kk5

set_option maxRecDepth 100000 in
set_option maxHeartbeats 4000000 in
theorem lc2 {p : Program} {l : Launch} {e : Env} {s : State} {m : MethodId} {below : List Frame} {meth : Method} {c : Code} {b0 : Nat} {D : va_G} {cA : ClassId} {ad : Nat → Nat} {k cells slots : Nat} {Q : State → Prop} {g : Nat → Nat → Int32} {z : Nat → Nat} (C : lcx p l s m c cL_law 15 D cA (lwA s)) (hroom : cells + 12 ≤ room_1.cells ∧ slots + 72 ≤ room_1.slots) (hI : inv g z) {x w y t i j : Nat} (hy : y < 2000000) (ht : t < 2000000) (hi : i < z 0) (hj : j < z 0) (kk : LK p l e s m below meth c b0 D cA ad k (cells + 12) (slots + 72) Q 1286) : ∀ (H : Heap) (locs : List Loc) (ls : Array Slot), va_P D vwCl (rlW cA ad g z) H → va_D (lwA s) (rlW cA ad g z) → va_S (lwA s) s.heap H locs → lv_has ls 15 [(0, .ref b0), (1, .ref (ad 70)), (2, .int (nI (z 0))), (3, .int (nI (z 2))), (4, .int (nI k)), (5, .int (nI x)), (6, .int (nI w)), (7, .int (nI y)), (8, .int (nI t)), (9, .int (nI i)), (10, .int (nI j))] → W p l e room_1 s m #[.ref b0] below meth c H locs cells slots Q (F0 m 215 ls []) := by
  by_cases hij : i = j
  · subst hij
    exact lp2_same C hroom hI hy ht hi kk
  · by_cases h : z 1 < 40 ∧ ahD g z i j (nI (y / 7 % 101) - nI 50) = true
    · exact lp2_ok C hroom hI hy ht hi hj hij h.1 h.2 kk
    · exact lp2_no C hroom hI hy ht hi hj hij h kk

set_option maxRecDepth 100000 in
set_option maxHeartbeats 4000000 in
theorem lc3 {p : Program} {l : Launch} {e : Env} {s : State} {m : MethodId} {below : List Frame} {meth : Method} {c : Code} {b0 : Nat} {D : va_G} {cA : ClassId} {ad : Nat → Nat} {k cells slots : Nat} {Q : State → Prop} {g : Nat → Nat → Int32} {z : Nat → Nat} (C : lcx p l s m c cL_law 15 D cA (lwA s)) (hroom : cells + 12 ≤ room_1.cells ∧ slots + 72 ≤ room_1.slots) (hI : inv g z) {x w y t i j : Nat} (hy : y < 2000000) (ht : t < 2000000) (hi : i < z 0) (hj : j < z 0) (kk : LK p l e s m below meth c b0 D cA ad k (cells + 12) (slots + 72) Q 1286) : ∀ (H : Heap) (locs : List Loc) (ls : Array Slot), va_P D vwCl (rlW cA ad g z) H → va_D (lwA s) (rlW cA ad g z) → va_S (lwA s) s.heap H locs → lv_has ls 15 [(0, .ref b0), (1, .ref (ad 70)), (2, .int (nI (z 0))), (3, .int (nI (z 2))), (4, .int (nI k)), (5, .int (nI x)), (6, .int (nI w)), (7, .int (nI y)), (8, .int (nI t)), (9, .int (nI i)), (10, .int (nI j))] → W p l e room_1 s m #[.ref b0] below meth c H locs cells slots Q (F0 m 337 ls []) := by
  obtain ⟨lo, elo⟩ : ∃ q, q = y / 16 % 1000 := ⟨_, rfl⟩
  have hlo : lo < 1000 := by rw [elo]; exact Nat.mod_lt _ (by omega)
  obtain ⟨hh, ehh⟩ : ∃ q, q = lo + t % (1000 - lo) := ⟨_, rfl⟩
  have hm9 := Nat.mod_lt t (show 0 < 1000 - lo by omega)
  have hhh : lo ≤ hh ∧ hh < 1000 := by omega
  cases hd : fnD g z i (nI lo) (nI hh) with
  | true => exact lp3_ok C hroom hI hy ht hi hj elo ehh hlo hhh hd kk
  | false => exact lp3_no C hroom hI hy ht hi hj elo ehh hlo hhh hd kk

set_option maxRecDepth 100000 in
set_option maxHeartbeats 4000000 in
theorem lc5 {p : Program} {l : Launch} {e : Env} {s : State} {m : MethodId} {below : List Frame} {meth : Method} {c : Code} {b0 : Nat} {D : va_G} {cA : ClassId} {ad : Nat → Nat} {k cells slots : Nat} {Q : State → Prop} {g : Nat → Nat → Int32} {z : Nat → Nat} (C : lcx p l s m c cL_law 15 D cA (lwA s)) (hroom : cells + 12 ≤ room_1.cells ∧ slots + 72 ≤ room_1.slots) (hI : inv g z) {x w y t i j : Nat} (hy : y < 2000000) (ht : t < 2000000) (hi : i < z 0) (hj : j < z 0) (kk : LK p l e s m below meth c b0 D cA ad k (cells + 12) (slots + 72) Q 1286) : ∀ (H : Heap) (locs : List Loc) (ls : Array Slot), va_P D vwCl (rlW cA ad g z) H → va_D (lwA s) (rlW cA ad g z) → va_S (lwA s) s.heap H locs → lv_has ls 15 [(0, .ref b0), (1, .ref (ad 70)), (2, .int (nI (z 0))), (3, .int (nI (z 2))), (4, .int (nI k)), (5, .int (nI x)), (6, .int (nI w)), (7, .int (nI y)), (8, .int (nI t)), (9, .int (nI i)), (10, .int (nI j))] → W p l e room_1 s m #[.ref b0] below meth c H locs cells slots Q (F0 m 498 ls []) := by
  have hj2 : y % 2 = 0 ∨ y % 2 = 1 := by omega
  have kj : ∀ (g : Nat → Nat → Int32) (z1 : Nat → Nat) (H : Heap) (locs : List Loc) (ls : Array Slot) (a b : Nat), inv g z1 → z1 0 = a → z1 2 = b → i < a → va_P D vwCl (rlW cA ad g z1) H → va_D (lwA s) (rlW cA ad g z1) → va_S (lwA s) s.heap H locs → lv_has ls 15 [(0, .ref b0), (1, .ref (ad 70)), (2, .int (nI a)), (3, .int (nI b)), (4, .int (nI k)), (7, .int (nI y)), (8, .int (nI t)), (9, .int (nI i))] → W p l e room_1 s m #[.ref b0] below meth c H locs (cells + 2) (slots + 12) Q (F0 m 594 ls []) := by
    intro g z1 H locs ls a b hI e0 e2 hi1 hP hD hS hl
    subst e0
    subst e2
    by_cases hpq : y % 8 = t % 8
    · exact lp5b_same (cells := cells + 2) (slots := slots + 12) C ⟨by omega, by omega⟩ hI hy ht hi1 hpq kk H locs ls hP hD hS hl
    · exact lp5b_diff (cells := cells + 2) (slots := slots + 12) C ⟨by omega, by omega⟩ hI hy ht hi1 hpq kk H locs ls hP hD hS hl
  by_cases hij : i = j
  · subst hij
    rcases hj2 with q | q
    · exact lp5_same0 C hroom hI hy ht hi q kj
    · exact lp5_same1 C hroom hI hy ht hi q kj
  · rcases hj2 with q | q
    · exact lp5_diff0 C hroom hI hy ht hi hj hij q kj
    · exact lp5_diff1 C hroom hI hy ht hi hj hij q kj

set_option maxRecDepth 100000 in
set_option maxHeartbeats 4000000 in
theorem lc6 {p : Program} {l : Launch} {e : Env} {s : State} {m : MethodId} {below : List Frame} {meth : Method} {c : Code} {b0 : Nat} {D : va_G} {cA : ClassId} {ad : Nat → Nat} {k cells slots : Nat} {Q : State → Prop} {g : Nat → Nat → Int32} {z : Nat → Nat} (C : lcx p l s m c cL_law 15 D cA (lwA s)) (hroom : cells + 12 ≤ room_1.cells ∧ slots + 72 ≤ room_1.slots) (hI : inv g z) {x w y t i j : Nat} (hy : y < 2000000) (ht : t < 2000000) (hi : i < z 0) (hj : j < z 0) (kk : LK p l e s m below meth c b0 D cA ad k (cells + 12) (slots + 72) Q 1286) (kk5 : LK p l e s m below meth c b0 D cA ad k (cells + 12) (slots + 72) Q 1305) : ∀ (H : Heap) (locs : List Loc) (ls : Array Slot), va_P D vwCl (rlW cA ad g z) H → va_D (lwA s) (rlW cA ad g z) → va_S (lwA s) s.heap H locs → lv_has ls 15 [(0, .ref b0), (1, .ref (ad 70)), (2, .int (nI (z 0))), (3, .int (nI (z 2))), (4, .int (nI k)), (5, .int (nI x)), (6, .int (nI w)), (7, .int (nI y)), (8, .int (nI t)), (9, .int (nI i)), (10, .int (nI j))] → W p l e room_1 s m #[.ref b0] below meth c H locs cells slots Q (F0 m 668 ls []) := by
  by_cases hij : i = j
  · subst hij
    exact lp6_same C hroom hI hy ht hi kk5
  · by_cases hc : q_n (g 22 i) < q_n (g 22 j)
    · by_cases h0 : raG g (z 0) i j = 0
      · exact lp6_0lt C hroom hI hy ht hi hj hij hc h0 kk
      · by_cases h5 : raG g (z 0) i j = 5
        · exact lp6_5lt C hroom hI hy ht hi hj hij hc h5 kk
        · exact lp6_nlt C hroom hI hy ht hi hj hij hc h0 h5 kk
    · by_cases h0 : raG g (z 0) i j = 0
      · exact lp6_0ge C hroom hI hy ht hi hj hij hc h0 kk
      · by_cases h5 : raG g (z 0) i j = 5
        · exact lp6_5ge C hroom hI hy ht hi hj hij hc h5 kk
        · exact lp6_nge C hroom hI hy ht hi hj hij hc h0 h5 kk

set_option maxRecDepth 100000 in
set_option maxHeartbeats 4000000 in
theorem lc8 {p : Program} {l : Launch} {e : Env} {s : State} {m : MethodId} {below : List Frame} {meth : Method} {c : Code} {b0 : Nat} {D : va_G} {cA : ClassId} {ad : Nat → Nat} {k cells slots : Nat} {Q : State → Prop} {g : Nat → Nat → Int32} {z : Nat → Nat} (C : lcx p l s m c cL_law 15 D cA (lwA s)) (hroom : cells + 12 ≤ room_1.cells ∧ slots + 72 ≤ room_1.slots) (hI : inv g z) {x w y t i j : Nat} (hy : y < 2000000) (ht : t < 2000000) (hi : i < z 0) (hj : j < z 0) (kk : LK p l e s m below meth c b0 D cA ad k (cells + 12) (slots + 72) Q 1286) : ∀ (H : Heap) (locs : List Loc) (ls : Array Slot), va_P D vwCl (rlW cA ad g z) H → va_D (lwA s) (rlW cA ad g z) → va_S (lwA s) s.heap H locs → lv_has ls 15 [(0, .ref b0), (1, .ref (ad 70)), (2, .int (nI (z 0))), (3, .int (nI (z 2))), (4, .int (nI k)), (5, .int (nI x)), (6, .int (nI w)), (7, .int (nI y)), (8, .int (nI t)), (9, .int (nI i)), (10, .int (nI j))] → W p l e room_1 s m #[.ref b0] below meth c H locs cells slots Q (F0 m 839 ls []) := by
  by_cases h1 : 2 ≤ cntN (g 22) (g 22 i) (z 0)
  · by_cases h2 : z 2 < 40
    · exact lp8_ok C hroom hI hy ht hi h1 h2 kk
    · exact lp8_full C hroom hI hy ht hi h1 h2 kk
  · exact lp8_few C hroom hI hy ht hi h1 kk

set_option maxRecDepth 100000 in
set_option maxHeartbeats 4000000 in
theorem lc10 {p : Program} {l : Launch} {e : Env} {s : State} {m : MethodId} {below : List Frame} {meth : Method} {c : Code} {b0 : Nat} {D : va_G} {cA : ClassId} {ad : Nat → Nat} {k cells slots : Nat} {Q : State → Prop} {g : Nat → Nat → Int32} {z : Nat → Nat} (C : lcx p l s m c cL_law 15 D cA (lwA s)) (hroom : cells + 12 ≤ room_1.cells ∧ slots + 72 ≤ room_1.slots) (hI : inv g z) {x w y t i j : Nat} (hy : y < 2000000) (ht : t < 2000000) (hi : i < z 0) (hj : j < z 0) (kk : LK p l e s m below meth c b0 D cA ad k (cells + 12) (slots + 72) Q 1286) : ∀ (H : Heap) (locs : List Loc) (ls : Array Slot), va_P D vwCl (rlW cA ad g z) H → va_D (lwA s) (rlW cA ad g z) → va_S (lwA s) s.heap H locs → lv_has ls 15 [(0, .ref b0), (1, .ref (ad 70)), (2, .int (nI (z 0))), (3, .int (nI (z 2))), (4, .int (nI k)), (5, .int (nI x)), (6, .int (nI w)), (7, .int (nI y)), (8, .int (nI t)), (9, .int (nI i)), (10, .int (nI j))] → W p l e room_1 s m #[.ref b0] below meth c H locs cells slots Q (F0 m 1073 ls []) := by
  by_cases hij : i = j
  · subst hij
    exact lp10_same C hroom hI hy ht hi kk
  · exact lp10_diff C hroom hI hy ht hi hj hij kk

def cvl (g : Nat → Nat → Int32) (w : Int32) (a p : Nat) : Int32 := if p < layL g w a then layR g w a p else (-1)
def cvb (g : Nat → Nat → Int32) (w : Int32) (a : Nat) : Nat → Int32
  | 0 => -1
  | p + 1 => cvl g w a p
theorem cvl_v {g : Nat → Nat → Int32} {w : Int32} {a p : Nat} (ha : a ≤ 16) (h : ¬ cvl g w a p < 0) : p < layL g w a ∧ ∃ x, x < a ∧ cvl g w a p = nI x ∧ layR g w a p = nI x := by
  unfold cvl at *
  by_cases c : p < layL g w a
  · rw [if_pos c] at *
    obtain ⟨x, hx, ex⟩ := layR_b a p c
    exact ⟨c, x, hx, ex, ex⟩
  · rw [if_neg c] at h
    exact absurd (by decide) h
/-- one after the other of a career -/
theorem cv_le {g : Nat → Nat → Int32} {w : Int32} {a p : Nat} (ha : a ≤ 16) (h1 : ¬ cvb g w a p < 0) (h2 : ¬ cvl g w a p < 0) : ∃ x y, x < a ∧ y < a ∧ cvb g w a p = nI x ∧ cvl g w a p = nI y ∧ (g 17 x).toInt ≤ (g 17 y).toInt := by
  cases p with
  | zero => exact absurd (show (-1 : Int32) < 0 by decide) h1
  | succ p =>
    obtain ⟨c1, x, hx, ex, lx⟩ := cvl_v ha h1
    obtain ⟨c2, y, hy, ey, ly⟩ := cvl_v ha h2
    refine ⟨x, y, hx, hy, ex, ey, ?_⟩
    have h := layR_s (g := g) (w := w) a ha p (p + 1) (Nat.lt_succ_self _) c2
    rw [lx, ly, q_n_nI (by omega), q_n_nI (by omega)] at h
    exact h
theorem cvl_m {g : Nat → Nat → Int32} {w : Int32} {a : Nat} : cvl g w a a = (-1) := by
  unfold cvl
  have := layL_le g w a
  rw [if_neg (by omega)]
set_option maxRecDepth 100000 in
set_option maxHeartbeats 4000000 in
theorem lc9 {p : Program} {l : Launch} {e : Env} {s : State} {m : MethodId} {below : List Frame} {meth : Method} {c : Code} {b0 : Nat} {D : va_G} {cA : ClassId} {ad : Nat → Nat} {k cells slots : Nat} {Q : State → Prop} {g : Nat → Nat → Int32} {z : Nat → Nat} (C : lcx p l s m c cL_law 15 D cA (lwA s)) (hroom : cells + 12 ≤ room_1.cells ∧ slots + 72 ≤ room_1.slots) (hI : inv g z) {i j : Nat} (hi : i < z 0) (hj : j < z 0) (kk : LK p l e s m below meth c b0 D cA ad k (cells + 12) (slots + 72) Q 1286) : ∀ (H : Heap) (locs : List Loc) (ls : Array Slot), va_P D vwCl (rlW cA ad g z) H → va_D (lwA s) (rlW cA ad g z) → va_S (lwA s) s.heap H locs → lv_has ls 15 [(0, .ref b0), (1, .ref (ad 70)), (2, .int (nI (z 0))), (3, .int (nI (z 2))), (4, .int (nI k)), (9, .int (nI i)), (10, .int (nI j))] → W p l e room_1 s m #[.ref b0] below meth c H locs cells slots Q (F0 m 946 ls []) := by
  intro H locs ls hP hD hS hl
  have hz0 := hI.hz0
  have hz2 := hI.hz2
  have eqi := (hI.own i hi).eq (by omega)
  have b1 := (hI.own i hi).lt (by omega)
  have lp : ∀ (n q : Nat), q ≤ z 0 + 1 → z 0 + 2 ≤ q + n → ∀ (g1 : Nat → Nat → Int32) (z1 : Nat → Nat) (H : Heap) (locs : List Loc) (ls : Array Slot), SR g (z 0) (z 1) (z 2) g1 z1 → va_P D vwCl (rlW cA ad g1 z1) H → va_D (lwA s) (rlW cA ad g1 z1) → va_S (lwA s) s.heap H locs → lv_has ls 15 [(0, .ref b0), (1, .ref (ad 70)), (2, .int (nI (z 0))), (3, .int (nI (z 2))), (4, .int (nI k)), (9, .int (nI i)), (10, .int (nI j)), (11, .int (nI (q_n (g 22 i)))), (12, .int (cvb g (g 22 i) (z 0) q)), (13, .int (nI q))] → W p l e room_1 s m #[.ref b0] below meth c H locs cells slots Q (F0 m 960 ls []) := by
    intro n
    induction n with
    | zero => intro q h1 h2; omega
    | succ n ih =>
      intro q h1 h2 g1 z1 H locs ls hs hP hD hS hl
      have next : q ≤ z 0 → ∀ (g1 : Nat → Nat → Int32) (z1 : Nat → Nat) (H : Heap) (locs : List Loc) (ls : Array Slot), SR g (z 0) (z 1) (z 2) g1 z1 → va_P D vwCl (rlW cA ad g1 z1) H → va_D (lwA s) (rlW cA ad g1 z1) → va_S (lwA s) s.heap H locs → lv_has ls 15 [(0, .ref b0), (1, .ref (ad 70)), (2, .int (nI (z 0))), (3, .int (nI (z 2))), (4, .int (nI k)), (9, .int (nI i)), (10, .int (nI j)), (11, .int (nI (q_n (g 22 i)))), (12, .int (cvb g (g 22 i) (z 0) q)), (13, .int (nI q)), (14, .int (cvl g (g 22 i) (z 0) q))] → W p l e room_1 s m #[.ref b0] below meth c H locs cells slots Q (F0 m 1017 ls []) := by
        intro hq g1 z1 H locs ls hs hP hD hS hl
        refine lv_iload C.hx C.hb dL_law_1017 (lv_at hl 10 rfl) ?_
        refine lv_istore (lv' := [(12, .int (cvl g (g 22 i) (z 0) q)), (0, .ref b0), (1, .ref (ad 70)), (2, .int (nI (z 0))), (3, .int (nI (z 2))), (4, .int (nI k)), (9, .int (nI i)), (10, .int (nI j)), (11, .int (nI (q_n (g 22 i)))), (13, .int (nI q)), (14, .int (cvl g (g 22 i) (z 0) q))]) C.hx C.hb dL_law_1019 hl (by decide) rfl (fun ls hl => ?_)
        refine lv_iinc (v := nI (q + 1)) (lv' := [(13, .int (nI (q + 1))), (12, .int (cvl g (g 22 i) (z 0) q)), (0, .ref b0), (1, .ref (ad 70)), (2, .int (nI (z 0))), (3, .int (nI (z 2))), (4, .int (nI k)), (9, .int (nI i)), (10, .int (nI j)), (11, .int (nI (q_n (g 22 i)))), (14, .int (cvl g (g 22 i) (z 0) q))]) C.hx C.hb dL_law_1021 hl (k := 9) rfl (nI_1 _) (by decide) rfl (fun ls hl => ?_)
        refine lv_goto (tgt := 960) C.hx C.hb dL_law_1024 (by decide) ?_
        exact ih (q + 1) (by omega) (by omega) g1 z1 H locs ls hs hP hD hS (lv_sub hl [2, 3, 4, 5, 6, 7, 8, 9, 1, 0] rfl)
      have test : q ≤ z 0 → ∀ (g1 : Nat → Nat → Int32) (z1 : Nat → Nat) (H : Heap) (locs : List Loc) (ls : Array Slot), SR g (z 0) (z 1) (z 2) g1 z1 → va_P D vwCl (rlW cA ad g1 z1) H → va_D (lwA s) (rlW cA ad g1 z1) → va_S (lwA s) s.heap H locs → lv_has ls 15 [(0, .ref b0), (1, .ref (ad 70)), (2, .int (nI (z 0))), (3, .int (nI (z 2))), (4, .int (nI k)), (9, .int (nI i)), (10, .int (nI j)), (11, .int (nI (q_n (g 22 i)))), (12, .int (cvb g (g 22 i) (z 0) q)), (13, .int (nI q)), (14, .int (cvl g (g 22 i) (z 0) q))] → W p l e room_1 s m #[.ref b0] below meth c H locs cells slots Q (F0 m 1003 ls []) := by
        intro hq g1 z1 H locs ls hs hP hD hS hl
        refine lv_iload C.hx C.hb dL_law_1003 (lv_at hl 9 rfl) ?_
        refine lv_iload_n C.hx C.hb dL_law_1005 rfl (lv_at hl 2 rfl) ?_
        refine lv_icmp_ne (tgt := 1017) C.hx C.hb dL_law_1006 (by decide) (fun c9 => next hq g1 z1 H locs ls hs hP hD hS hl) (fun c9 => ?_)
        have eq9 : q = z 0 := (nI_eq (by omega) (by omega)).1 c9
        refine lv_iload C.hx C.hb dL_law_1009 (lv_at hl 10 rfl) ?_
        refine lv_iconst (v := (-1)) C.hx C.hb dL_law_1011 (by decide +kernel) ?_
        refine lv_icmp_eq (tgt := 1017) C.hx C.hb dL_law_1012 (by decide) (fun c9 => next hq g1 z1 H locs ls hs hP hD hS hl) (fun c9 => absurd (by rw [eq9]; exact cvl_m) c9)
      refine lv_iload C.hx C.hb dL_law_960 (lv_at hl 9 rfl) ?_
      refine lv_iload_n C.hx C.hb dL_law_962 rfl (lv_at hl 2 rfl) ?_
      refine lv_icmp_gt (tgt := 1027) C.hx C.hb dL_law_963 (by decide) (fun c9 => ?_) (fun c9 => ?_)
      · have r0 : z1 0 = z 0 := hs.2.1
        have r2 : z1 2 = z 2 := hs.2.2.2.1
        have r22 : g1 22 = g 22 := hs.1 22 rfl
        refine lp9_c (g := g1) (z := z1) (i := i) (j := j) C hroom hs.2.2.2.2 (by rw [r0]; exact hi) (by rw [r0]; exact hj) kk H locs ls hP hD hS ?_
        rw [r0, r2, r22]
        exact lv_sub hl [0, 1, 2, 3, 4, 5, 6, 7] rfl
      · have hq : q ≤ z 0 := by
          rw [nI_ltI (by omega) (by omega)] at c9
          omega
        refine lv_aload_n C.hx C.hb dL_law_966 rfl (lv_at hl 1 rfl) ?_
        refine lv_iload C.hx C.hb dL_law_967 (lv_at hl 7 rfl) ?_
        refine lv_iload C.hx C.hb dL_law_969 (lv_at hl 9 rfl) ?_
        refine q_cQ (P := SR g (z 0) (z 1) (z 2)) (r := cvl g (g 22 i) (z 0) q) (As := [.int (nI (q_n (g 22 i))), .int (nI q)]) C hP hD hS (by obtain ⟨ga, za, ca, ha⟩ := sq_careerAt (l := l) (D := D) (cA := cA) (ad := ad) hs b1 (pl := q) (by omega); exact ⟨ga, za, q_CIr ca (by rw [hI.self i hi]; rfl), ha⟩) k_X5_careerAt kl_L_67 rfl hl rfl rfl (Nat.le_of_ble_eq_true rfl) ⟨⟨rfl, rfl⟩, Nat.le_of_ble_eq_true rfl, Nat.le_of_ble_eq_true rfl⟩ ⟨by omega, by omega⟩ dL_law_971 (fun g1 z1 H locs hs hP hD hS => ?_)
        refine lv_istore (lv' := [(14, .int (cvl g (g 22 i) (z 0) q)), (0, .ref b0), (1, .ref (ad 70)), (2, .int (nI (z 0))), (3, .int (nI (z 2))), (4, .int (nI k)), (9, .int (nI i)), (10, .int (nI j)), (11, .int (nI (q_n (g 22 i)))), (12, .int (cvb g (g 22 i) (z 0) q)), (13, .int (nI q))]) C.hx C.hb dL_law_974 hl (by decide) rfl (fun ls hl => ?_)
        have hl14 : lv_has ls 15 [(0, .ref b0), (1, .ref (ad 70)), (2, .int (nI (z 0))), (3, .int (nI (z 2))), (4, .int (nI k)), (9, .int (nI i)), (10, .int (nI j)), (11, .int (nI (q_n (g 22 i)))), (12, .int (cvb g (g 22 i) (z 0) q)), (13, .int (nI q)), (14, .int (cvl g (g 22 i) (z 0) q))] := lv_sub hl [1, 2, 3, 4, 5, 6, 7, 8, 9, 10, 0] rfl
        refine lv_iload C.hx C.hb dL_law_976 (lv_at hl14 8 rfl) ?_
        refine lv_if_lt (tgt := 1003) C.hx C.hb dL_law_978 (by decide) (fun c9 => test hq g1 z1 H locs ls hs hP hD hS hl14) (fun c8 => ?_)
        refine lv_iload C.hx C.hb dL_law_981 (lv_at hl14 10 rfl) ?_
        refine lv_if_lt (tgt := 1003) C.hx C.hb dL_law_983 (by decide) (fun c9 => test hq g1 z1 H locs ls hs hP hD hS hl14) (fun c9 => ?_)
        obtain ⟨xb, xn, hb9, hn9, eb, en, hle⟩ := cv_le hz0 c8 c9
        refine lv_aload_n C.hx C.hb dL_law_986 rfl (lv_at hl14 1 rfl) ?_
        refine lv_iload C.hx C.hb dL_law_987 (lv_at hl14 10 rfl) ?_
        refine q_top (y := nI xn) en ?_
        refine lv_iconst (v := nI 0) C.hx C.hb dL_law_989 (by decide +kernel) ?_
        refine q_cQ (P := SR g (z 0) (z 1) (z 2)) (r := g 17 xn) (As := [.int (nI xn), .int (q_b false)]) C hP hD hS (sq_year hs hn9 false) k_X5_year kl_L_31 rfl hl14 rfl rfl (Nat.le_of_ble_eq_true rfl) ⟨⟨rfl, rfl⟩, Nat.le_of_ble_eq_true rfl, Nat.le_of_ble_eq_true rfl⟩ ⟨by omega, by omega⟩ dL_law_990 (fun g1 z1 H locs hs hP hD hS => ?_)
        refine lv_aload_n C.hx C.hb dL_law_993 rfl (lv_at hl14 1 rfl) ?_
        refine lv_iload C.hx C.hb dL_law_994 (lv_at hl14 8 rfl) ?_
        refine q_top (y := nI xb) eb ?_
        refine lv_iconst (v := nI 0) C.hx C.hb dL_law_996 (by decide +kernel) ?_
        refine q_cQ (P := SR g (z 0) (z 1) (z 2)) (r := g 17 xb) (As := [.int (nI xb), .int (q_b false)]) C hP hD hS (sq_year hs hb9 false) k_X5_year kl_L_31 rfl hl14 rfl rfl (Nat.le_of_ble_eq_true rfl) ⟨⟨rfl, rfl⟩, Nat.le_of_ble_eq_true rfl, Nat.le_of_ble_eq_true rfl⟩ ⟨by omega, by omega⟩ dL_law_997 (fun g1 z1 H locs hs hP hD hS => ?_)
        refine lv_icmp_lt (tgt := 1015) C.hx C.hb dL_law_1000 (by decide) (fun c7 => absurd (zz_lt.1 c7) (by omega)) (fun _ => ?_)
        exact test hq g1 z1 H locs ls hs hP hD hS hl14
  refine lv_aload_n C.hx C.hb dL_law_946 rfl (lv_at hl 1 rfl) ?_
  refine lv_iload C.hx C.hb dL_law_947 (lv_at hl 5 rfl) ?_
  refine q_cE (r := nI (q_n (g 22 i))) (As := [.int (nI i)]) C hP hD hS (q_CIr (c_X5_person l D cA ad g z i hi hI.hz0) eqi) k_X5_person kl_L_58 rfl hl rfl rfl (Nat.le_of_ble_eq_true rfl) ⟨⟨rfl, rfl⟩, Nat.le_of_ble_eq_true rfl, Nat.le_of_ble_eq_true rfl⟩ ⟨by omega, by omega⟩ dL_law_949 (fun H locs hP hD hS => ?_)
  refine lv_istore (lv' := [(11, .int (nI (q_n (g 22 i)))), (0, .ref b0), (1, .ref (ad 70)), (2, .int (nI (z 0))), (3, .int (nI (z 2))), (4, .int (nI k)), (9, .int (nI i)), (10, .int (nI j))]) C.hx C.hb dL_law_952 hl (by decide) rfl (fun ls hl => ?_)
  refine lv_iconst (v := (-1)) C.hx C.hb dL_law_954 (by decide +kernel) ?_
  refine lv_istore (lv' := [(12, .int (-1)), (11, .int (nI (q_n (g 22 i)))), (0, .ref b0), (1, .ref (ad 70)), (2, .int (nI (z 0))), (3, .int (nI (z 2))), (4, .int (nI k)), (9, .int (nI i)), (10, .int (nI j))]) C.hx C.hb dL_law_955 hl (by decide) rfl (fun ls hl => ?_)
  refine lv_iconst (v := nI 0) C.hx C.hb dL_law_957 (by decide +kernel) ?_
  refine lv_istore (lv' := [(13, .int (nI 0)), (12, .int (-1)), (11, .int (nI (q_n (g 22 i)))), (0, .ref b0), (1, .ref (ad 70)), (2, .int (nI (z 0))), (3, .int (nI (z 2))), (4, .int (nI k)), (9, .int (nI i)), (10, .int (nI j))]) C.hx C.hb dL_law_958 hl (by decide) rfl (fun ls hl => ?_)
  exact lp (z 0 + 2) 0 (by omega) (by omega) g z H locs ls (SRrf hI) hP hD hS (lv_sub hl [3, 4, 5, 6, 7, 8, 9, 2, 1, 0] rfl)

theorem shl1 : ∀ a, a ≤ 16 → nI 1 <<< (nI a &&& 31) = nI (2 ^ a) := by decide +kernel
theorem pl_31s : ∀ k, k < 16 → nI k &&& 31 = nI k ∧ ((nI k).toBitVec.smod 32).toNat = k := by decide +kernel
theorem shrN {n q : Nat} (hn : n < 65536) (hq : q < 16) : nI n >>> (nI q &&& 31) = nI (n / 2 ^ q) := by
  obtain ⟨e1, e2⟩ := pl_31s q hq
  rw [e1]
  exact pk_shrN (by omega) (nI q) q e2
theorem and1 {n : Nat} (hn : n < 65536) : nI n &&& nI 1 = nI (n % 2) := pk_andN (by omega) 1 (by decide +kernel)
theorem ush8 (x : Int32) : ∃ n, n < 16777216 ∧ (x.toUInt32 >>> ((nI 8).toUInt32 &&& Int32.toUInt32 31)).toInt32 = nI n := by
  have h := pk_ushr x (nI 8) 8 (by decide +kernel)
  have hx : x.toBitVec.toNat < 2 ^ 32 := x.toBitVec.isLt
  refine ⟨x.toBitVec.toNat / 2 ^ 8, by omega, ?_⟩
  apply Int32.toBitVec_inj.mp
  apply BitVec.eq_of_toNat_eq
  rw [h, pk_tn (by omega)]
set_option maxRecDepth 100000 in
set_option maxHeartbeats 4000000 in
theorem lc11 {p : Program} {l : Launch} {e : Env} {s : State} {m : MethodId} {below : List Frame} {meth : Method} {c : Code} {b0 : Nat} {D : va_G} {cA : ClassId} {ad : Nat → Nat} {k cells slots : Nat} {Q : State → Prop} {g : Nat → Nat → Int32} {z : Nat → Nat} (C : lcx p l s m c cL_law 15 D cA (lwA s)) (hroom : cells + 12 ≤ room_1.cells ∧ slots + 72 ≤ room_1.slots) (hI : inv g z) {y : Nat} (hy : y < 2000000) (kk : LK p l e s m below meth c b0 D cA ad k (cells + 12) (slots + 72) Q 1286) : ∀ (H : Heap) (locs : List Loc) (ls : Array Slot), va_P D vwCl (rlW cA ad g z) H → va_D (lwA s) (rlW cA ad g z) → va_S (lwA s) s.heap H locs → lv_has ls 15 [(0, .ref b0), (1, .ref (ad 70)), (2, .int (nI (z 0))), (3, .int (nI (z 2))), (4, .int (nI k)), (7, .int (nI y))] → W p l e room_1 s m #[.ref b0] below meth c H locs cells slots Q (F0 m 1169 ls []) := by
  intro H locs ls hP hD hS hl
  have hz0 := hI.hz0
  have p16 : 2 ^ z 0 ≤ 2 ^ 16 := Nat.pow_le_pow_right (by omega) hz0
  have p1 : 1 ≤ 2 ^ z 0 := Nat.one_le_two_pow
  obtain ⟨P, hPw⟩ : ∃ P, P = 2 ^ z 0 := ⟨_, rfl⟩
  rw [← hPw] at p16 p1
  obtain ⟨nn, enn⟩ : ∃ q, q = y % P := ⟨_, rfl⟩
  have hnP : nn < P := by rw [enn]; exact Nat.mod_lt _ (by omega)
  have hnn : nn < 2 ^ z 0 := by rw [← hPw]; exact hnP
  have h65 : nn < 65536 := by omega
  have epc : popN nn (z 0) = pcN nn := (bitC_pop h65 (z 0) hz0).symm.trans (bitC_pcN hnn hz0)
  have lp : ∀ (n q : Nat), q ≤ z 0 → z 0 + 1 ≤ q + n → ∀ (H : Heap) (locs : List Loc) (ls : Array Slot), va_P D vwCl (rlW cA ad g z) H → va_D (lwA s) (rlW cA ad g z) → va_S (lwA s) s.heap H locs → lv_has ls 15 [(0, .ref b0), (1, .ref (ad 70)), (2, .int (nI (z 0))), (3, .int (nI (z 2))), (4, .int (nI k)), (11, .int (nI nn)), (12, .int (nI (popN nn q))), (13, .int (nI q))] → W p l e room_1 s m #[.ref b0] below meth c H locs cells slots Q (F0 m 1183 ls []) := by
    intro n
    induction n with
    | zero => intro q h1 h2; omega
    | succ n ih =>
      intro q h1 h2 H locs ls hP hD hS hl
      refine lv_iload C.hx C.hb dL_law_1183 (lv_at hl 7 rfl) ?_
      refine lv_iload_n C.hx C.hb dL_law_1185 rfl (lv_at hl 2 rfl) ?_
      refine lv_icmp_ge (tgt := 1207) C.hx C.hb dL_law_1186 (by decide) (fun c9 => ?_) (fun c9 => ?_)
      · have eq9 : q = z 0 := by
          rw [nI_leI (by omega) (by omega)] at c9
          omega
        have hl2 : lv_has ls 15 [(0, .ref b0), (1, .ref (ad 70)), (2, .int (nI (z 0))), (3, .int (nI (z 2))), (4, .int (nI k)), (11, .int (nI nn)), (12, .int (nI (pcN nn)))] := by
          rw [eq9, epc] at hl
          exact lv_sub hl [0, 1, 2, 3, 4, 5, 6] rfl
        by_cases h6 : pcN nn ≤ 6
        · exact lp11_few C hroom hI hnn h6 kk H locs ls hP hD hS hl2
        · exact lp11_many C hroom hI hnn h6 kk H locs ls hP hD hS hl2
      · have hq : q < z 0 := by
          rw [nI_leI (by omega) (by omega)] at c9
          omega
        have hd : nn / 2 ^ q ≤ nn := Nat.div_le_self _ _
        refine lv_iload C.hx C.hb dL_law_1189 (lv_at hl 6 rfl) ?_
        refine lv_iload C.hx C.hb dL_law_1191 (lv_at hl 5 rfl) ?_
        refine lv_iload C.hx C.hb dL_law_1193 (lv_at hl 7 rfl) ?_
        refine lv_ishr C.hx C.hb dL_law_1195 ?_
        refine q_top (y := nI (nn / 2 ^ q)) (shrN h65 (by omega)) ?_
        refine lv_iconst (v := nI 1) C.hx C.hb dL_law_1196 (by decide +kernel) ?_
        refine lv_iand C.hx C.hb dL_law_1197 ?_
        refine q_top (y := nI (nn / 2 ^ q % 2)) (and1 (by omega)) ?_
        refine lv_iadd C.hx C.hb dL_law_1198 ?_
        refine q_top (y := nI (popN nn (q + 1))) (by rw [popN_s]; exact nI_add _ _) ?_
        refine lv_istore (lv' := [(12, .int (nI (popN nn (q + 1)))), (0, .ref b0), (1, .ref (ad 70)), (2, .int (nI (z 0))), (3, .int (nI (z 2))), (4, .int (nI k)), (11, .int (nI nn)), (13, .int (nI q))]) C.hx C.hb dL_law_1199 hl (by decide) rfl (fun ls hl => ?_)
        refine lv_iinc (v := nI (q + 1)) (lv' := [(13, .int (nI (q + 1))), (12, .int (nI (popN nn (q + 1)))), (0, .ref b0), (1, .ref (ad 70)), (2, .int (nI (z 0))), (3, .int (nI (z 2))), (4, .int (nI k)), (11, .int (nI nn))]) C.hx C.hb dL_law_1201 hl (k := 7) rfl (nI_1 _) (by decide) rfl (fun ls hl => ?_)
        refine lv_goto (tgt := 1183) C.hx C.hb dL_law_1204 (by decide) ?_
        exact ih (q + 1) (by omega) (by omega) H locs ls hP hD hS (lv_sub hl [2, 3, 4, 5, 6, 7, 1, 0] rfl)
  refine lv_iload C.hx C.hb dL_law_1169 (lv_at hl 5 rfl) ?_
  refine lv_iconst (v := nI 1) C.hx C.hb dL_law_1171 (by decide +kernel) ?_
  refine lv_iload_n C.hx C.hb dL_law_1172 rfl (lv_at hl 2 rfl) ?_
  refine lv_ishl C.hx C.hb dL_law_1173 ?_
  refine q_top (y := nI P) (by rw [hPw]; exact shl1 (z 0) hz0) ?_
  refine lv_irem C.hx C.hb dL_law_1174 (nI_ne0 (by omega) (by omega)) ?_
  refine q_top (y := nI nn) (by rw [enn]; exact pk_rem (by omega) (by omega) (by omega)) ?_
  refine lv_istore (lv' := [(11, .int (nI nn)), (0, .ref b0), (1, .ref (ad 70)), (2, .int (nI (z 0))), (3, .int (nI (z 2))), (4, .int (nI k)), (7, .int (nI y))]) C.hx C.hb dL_law_1175 hl (by decide) rfl (fun ls hl => ?_)
  refine lv_iconst (v := nI 0) C.hx C.hb dL_law_1177 (by decide +kernel) ?_
  refine lv_istore (lv' := [(12, .int (nI 0)), (11, .int (nI nn)), (0, .ref b0), (1, .ref (ad 70)), (2, .int (nI (z 0))), (3, .int (nI (z 2))), (4, .int (nI k)), (7, .int (nI y))]) C.hx C.hb dL_law_1178 hl (by decide) rfl (fun ls hl => ?_)
  refine lv_iconst (v := nI 0) C.hx C.hb dL_law_1180 (by decide +kernel) ?_
  refine lv_istore (lv' := [(13, .int (nI 0)), (12, .int (nI 0)), (11, .int (nI nn)), (0, .ref b0), (1, .ref (ad 70)), (2, .int (nI (z 0))), (3, .int (nI (z 2))), (4, .int (nI k)), (7, .int (nI y))]) C.hx C.hb dL_law_1181 hl (by decide) rfl (fun ls hl => ?_)
  exact lp (z 0 + 1) 0 (by omega) (by omega) H locs ls hP hD hS (lv_sub hl [3, 4, 5, 6, 7, 2, 1, 0] rfl)

set_option maxRecDepth 100000 in
set_option maxHeartbeats 4000000 in
theorem lc_tail {p : Program} {l : Launch} {e : Env} {s : State} {m : MethodId} {below : List Frame} {meth : Method} {c : Code} {b0 : Nat} {D : va_G} {cA : ClassId} {ad : Nat → Nat} {k cells slots : Nat} {Q : State → Prop} {g : Nat → Nat → Int32} {z : Nat → Nat} (C : lcx p l s m c cL_law 15 D cA (lwA s)) (hroom : cells + 500 ≤ room_1.cells ∧ slots + 3000 ≤ room_1.slots) (hI : inv g z) (hk : k < 70) (kk5 : LK p l e s m below meth c b0 D cA ad k (cells + 500) (slots + 3000) Q 1305) : ∀ (H : Heap) (locs : List Loc) (ls : Array Slot), va_P D vwCl (rlW cA ad g z) H → va_D (lwA s) (rlW cA ad g z) → va_S (lwA s) s.heap H locs → lv_has ls 15 (lvL b0 ad (z 0) (z 2) k) → W p l e room_1 s m #[.ref b0] below meth c H locs cells slots Q (F0 m 1286 ls []) := by
  intro H locs ls hP hD hS hl
  refine lv_iload C.hx C.hb dL_law_1286 (lv_at hl 4 rfl) ?_
  refine lv_bipush (v := nI 16) C.hx C.hb dL_law_1288 (by decide +kernel) ?_
  refine lv_irem C.hx C.hb dL_law_1290 (by decide +kernel) ?_
  refine q_top (y := nI (k % 16)) (pk_rem (by omega) (by omega) (by omega)) ?_
  refine lv_if_ne (tgt := 1305) C.hx C.hb dL_law_1291 (by decide) (fun _ => ?_) (fun _ => ?_)
  · refine W.widen (k := cells + 500) (n := slots + 3000) (by omega) (by omega) ?_
    exact kk5 g z H locs ls (z 0) (z 2) hI rfl rfl hP hD hS hl
  · refine lv_aload_n C.hx C.hb dL_law_1294 rfl (lv_at hl 1 rfl) ?_
    refine lv_iload_n C.hx C.hb dL_law_1295 rfl (lv_at hl 2 rfl) ?_
    refine lv_iload_n C.hx C.hb dL_law_1296 rfl (lv_at hl 3 rfl) ?_
    refine q_callP (As := [.ref (ad 70), .int (nI (z 0)), .int (nI (z 2))]) (r := nI 1) (c2 := cells + 500) (s2 := slots + 3000) C.hx C.hb C.hml C.hown C.hT C.hK hP hD hS C.hA C.hX C.hN C.hZ (c_L_refuses C.htr hI) k_L_refuses kl_L_109 q_BG_adr hl rfl rfl (Nat.le_of_ble_eq_true rfl) ⟨Nat.le_of_ble_eq_true rfl, Nat.le_of_ble_eq_true rfl⟩ ⟨Nat.le_refl _, Nat.le_refl _⟩ hroom dL_law_1297 ?_
    rintro w H1 locs1 ⟨g2, z2, rfl, hs⟩ hP1 hD1 hS1
    refine lv_if_ne (tgt := 1305) C.hx C.hb dL_law_1300 (by decide) (fun _ => ?_) (fun c9 => absurd c9 (by decide +kernel))
    exact kk5 g2 z2 H1 locs1 ls (z 0) (z 2) hs.2.2.2.2 hs.2.1 hs.2.2.2.1 hP1 hD1 hS1 hl
set_option maxRecDepth 100000 in
set_option maxHeartbeats 4000000 in
theorem lc_turn {p : Program} {l : Launch} {e : Env} {s : State} {m : MethodId} {below : List Frame} {meth : Method} {c : Code} {b0 : Nat} {D : va_G} {cA : ClassId} {ad : Nat → Nat} {k cells slots : Nat} {Q : State → Prop} {g : Nat → Nat → Int32} {z : Nat → Nat} (C : lcx p l s m c cL_law 15 D cA (lwA s)) (hroom : cells + 512 ≤ room_1.cells ∧ slots + 3072 ≤ room_1.slots) (hI : inv g z) {x : Nat} (hx9 : x < 16777216) (hk : k < 70) (kk5 : LK p l e s m below meth c b0 D cA ad k (cells + 512) (slots + 3072) Q 1305) : ∀ (H : Heap) (locs : List Loc) (ls : Array Slot), va_P D vwCl (rlW cA ad g z) H → va_D (lwA s) (rlW cA ad g z) → va_S (lwA s) s.heap H locs → lv_has ls 15 (lvL b0 ad (z 0) (z 2) k) → W p l e room_1 s m #[.ref b0] below meth c H locs cells slots Q (F0 m 53 ls [.int (nI x)]) := by
  intro H locs ls hP hD hS hl
  have hz0 := hI.hz0
  have kk : LK p l e s m below meth c b0 D cA ad k (cells + 12) (slots + 72) Q 1286 := fun g2 z2 H2 locs2 ls2 a b hI2 e0 e2 hP2 hD2 hS2 hl2 => by
    subst e0
    subst e2
    exact lc_tail (cells := cells + 12) (slots := slots + 72) C ⟨by omega, by omega⟩ hI2 hk kk5 H2 locs2 ls2 hP2 hD2 hS2 hl2
  have k5 : LK p l e s m below meth c b0 D cA ad k (cells + 12) (slots + 72) Q 1305 := fun g2 z2 H2 locs2 ls2 a b hI2 e0 e2 hP2 hD2 hS2 hl2 => by
    refine W.widen (k := cells + 512) (n := slots + 3072) (by omega) (by omega) ?_
    exact kk5 g2 z2 H2 locs2 ls2 a b hI2 e0 e2 hP2 hD2 hS2 hl2
  refine lv_istore (lv' := [(5, .int (nI x)), (0, .ref b0), (1, .ref (ad 70)), (2, .int (nI (z 0))), (3, .int (nI (z 2))), (4, .int (nI k))]) C.hx C.hb dL_law_53 hl (by decide) rfl (fun ls hl => ?_)
  refine lv_iload C.hx C.hb dL_law_55 (lv_at hl 0 rfl) ?_
  refine lv_bipush (v := nI 12) C.hx C.hb dL_law_57 (by decide +kernel) ?_
  refine lv_irem C.hx C.hb dL_law_59 (by decide +kernel) ?_
  obtain ⟨w, ew⟩ : ∃ q, q = x % 12 := ⟨_, rfl⟩
  refine q_top (y := nI w) (by rw [ew]; exact pk_rem (by omega) (by omega) (by omega)) ?_
  have hw : w < 12 := by rw [ew]; exact Nat.mod_lt _ (by omega)
  refine lv_istore (lv' := [(6, .int (nI w)), (5, .int (nI x)), (0, .ref b0), (1, .ref (ad 70)), (2, .int (nI (z 0))), (3, .int (nI (z 2))), (4, .int (nI k))]) C.hx C.hb dL_law_60 hl (by decide) rfl (fun ls hl => ?_)
  refine lv_iload C.hx C.hb dL_law_62 (lv_at hl 1 rfl) ?_
  refine lv_bipush (v := nI 12) C.hx C.hb dL_law_64 (by decide +kernel) ?_
  refine lv_idiv C.hx C.hb dL_law_66 (by decide +kernel) ?_
  obtain ⟨y, ey⟩ : ∃ q, q = x / 12 := ⟨_, rfl⟩
  refine q_top (y := nI y) (by rw [ey]; exact pk_div (by omega) (by omega) (by omega)) ?_
  have hy : y < 2000000 := by omega
  refine lv_istore (lv' := [(7, .int (nI y)), (6, .int (nI w)), (5, .int (nI x)), (0, .ref b0), (1, .ref (ad 70)), (2, .int (nI (z 0))), (3, .int (nI (z 2))), (4, .int (nI k))]) C.hx C.hb dL_law_67 hl (by decide) rfl (fun ls hl => ?_)
  refine lv_iload C.hx C.hb dL_law_69 (lv_at hl 0 rfl) ?_
  refine lv_bipush (v := nI 60) C.hx C.hb dL_law_71 (by decide +kernel) ?_
  refine lv_idiv C.hx C.hb dL_law_73 (by decide +kernel) ?_
  obtain ⟨t, et⟩ : ∃ q, q = y / 60 := ⟨_, rfl⟩
  refine q_top (y := nI t) (by rw [et]; exact pk_div (by omega) (by omega) (by omega)) ?_
  have ht : t < 2000000 := by omega
  refine lv_istore (lv' := [(8, .int (nI t)), (7, .int (nI y)), (6, .int (nI w)), (5, .int (nI x)), (0, .ref b0), (1, .ref (ad 70)), (2, .int (nI (z 0))), (3, .int (nI (z 2))), (4, .int (nI k))]) C.hx C.hb dL_law_74 hl (by decide) rfl (fun ls hl => ?_)
  have hl0 : lv_has ls 15 [(0, .ref b0), (1, .ref (ad 70)), (2, .int (nI (z 0))), (3, .int (nI (z 2))), (4, .int (nI k)), (5, .int (nI x)), (6, .int (nI w)), (7, .int (nI y)), (8, .int (nI t))] := lv_sub hl [4, 5, 6, 7, 8, 3, 2, 1, 0] rfl
  refine lv_iload C.hx C.hb dL_law_76 (lv_at hl0 6 rfl) ?_
  refine lv_iconst (v := nI 2) C.hx C.hb dL_law_78 (by decide +kernel) ?_
  refine lv_icmp_lt (tgt := 86) C.hx C.hb dL_law_79 (by decide) (fun _ => lc0 C ⟨by omega, by omega⟩ hI hy ht k5 H locs ls hP hD hS hl0) (fun w2 => ?_)
  have w2 : 2 ≤ w := by rw [nI_ltI (by omega) (by omega)] at w2; omega
  refine lv_iload_n C.hx C.hb dL_law_82 rfl (lv_at hl0 2 rfl) ?_
  refine lv_if_ne (tgt := 197) C.hx C.hb dL_law_83 (by decide) (fun m0 => ?_) (fun _ => lc0 C ⟨by omega, by omega⟩ hI hy ht k5 H locs ls hP hD hS hl0)
  have m0 : 0 < z 0 := Nat.pos_of_ne_zero (fun q => m0 (by rw [q]; rfl))
  refine lv_iload C.hx C.hb dL_law_197 (lv_at hl0 7 rfl) ?_
  refine lv_iload_n C.hx C.hb dL_law_199 rfl (lv_at hl0 2 rfl) ?_
  refine lv_irem C.hx C.hb dL_law_200 (nI_ne0 m0 (by omega)) ?_
  obtain ⟨i, ei⟩ : ∃ q, q = y % z 0 := ⟨_, rfl⟩
  refine q_top (y := nI i) (by rw [ei]; exact pk_rem (by omega) m0 (by omega)) ?_
  have hi : i < z 0 := by rw [ei]; exact Nat.mod_lt _ m0
  refine lv_istore (lv' := [(9, .int (nI i)), (0, .ref b0), (1, .ref (ad 70)), (2, .int (nI (z 0))), (3, .int (nI (z 2))), (4, .int (nI k)), (5, .int (nI x)), (6, .int (nI w)), (7, .int (nI y)), (8, .int (nI t))]) C.hx C.hb dL_law_201 hl0 (by decide) rfl (fun ls hl => ?_)
  refine lv_iload C.hx C.hb dL_law_203 (lv_at hl 9 rfl) ?_
  refine lv_iload_n C.hx C.hb dL_law_205 rfl (lv_at hl 3 rfl) ?_
  refine lv_irem C.hx C.hb dL_law_206 (nI_ne0 m0 (by omega)) ?_
  obtain ⟨j, ej⟩ : ∃ q, q = t % z 0 := ⟨_, rfl⟩
  refine q_top (y := nI j) (by rw [ej]; exact pk_rem (by omega) m0 (by omega)) ?_
  have hj : j < z 0 := by rw [ej]; exact Nat.mod_lt _ m0
  refine lv_istore (lv' := [(10, .int (nI j)), (9, .int (nI i)), (0, .ref b0), (1, .ref (ad 70)), (2, .int (nI (z 0))), (3, .int (nI (z 2))), (4, .int (nI k)), (5, .int (nI x)), (6, .int (nI w)), (7, .int (nI y)), (8, .int (nI t))]) C.hx C.hb dL_law_207 hl (by decide) rfl (fun ls hl => ?_)
  have hl1 : lv_has ls 15 [(0, .ref b0), (1, .ref (ad 70)), (2, .int (nI (z 0))), (3, .int (nI (z 2))), (4, .int (nI k)), (5, .int (nI x)), (6, .int (nI w)), (7, .int (nI y)), (8, .int (nI t)), (9, .int (nI i)), (10, .int (nI j))] := lv_sub hl [2, 3, 4, 5, 6, 7, 8, 9, 10, 1, 0] rfl
  have hr : cells + 12 ≤ room_1.cells ∧ slots + 72 ≤ room_1.slots := ⟨by omega, by omega⟩
  refine lv_iload C.hx C.hb dL_law_209 (lv_at hl1 6 rfl) ?_
  refine lv_iconst (v := nI 2) C.hx C.hb dL_law_211 (by decide +kernel) ?_
  refine lv_icmp_ne (tgt := 331) C.hx C.hb dL_law_212 (by decide) (fun c2 => ?_) (fun _ => lc2 C hr hI hy ht hi hj kk H locs ls hP hD hS hl1)
  have c2 : ¬ w = 2 := fun q => c2 (by rw [q])
  refine lv_iload C.hx C.hb dL_law_331 (lv_at hl1 6 rfl) ?_
  refine lv_iconst (v := nI 5) C.hx C.hb dL_law_333 (by decide +kernel) ?_
  refine lv_icmp_ge (tgt := 492) C.hx C.hb dL_law_334 (by decide) (fun c5 => ?_) (fun _ => lc3 C hr hI hy ht hi hj kk H locs ls hP hD hS hl1)
  have c5 : ¬ w < 5 := by rw [nI_leI (by omega) (by omega)] at c5; omega
  refine lv_iload C.hx C.hb dL_law_492 (lv_at hl1 6 rfl) ?_
  refine lv_iconst (v := nI 5) C.hx C.hb dL_law_494 (by decide +kernel) ?_
  refine lv_icmp_ne (tgt := 661) C.hx C.hb dL_law_495 (by decide) (fun c5 => ?_) (fun _ => lc5 C hr hI hy ht hi hj kk H locs ls hP hD hS hl1)
  have c5 : ¬ w = 5 := fun q => c5 (by rw [q])
  refine lv_iload C.hx C.hb dL_law_661 (lv_at hl1 6 rfl) ?_
  refine lv_bipush (v := nI 8) C.hx C.hb dL_law_663 (by decide +kernel) ?_
  refine lv_icmp_ge (tgt := 832) C.hx C.hb dL_law_665 (by decide) (fun c8 => ?_) (fun _ => lc6 C hr hI hy ht hi hj kk k5 H locs ls hP hD hS hl1)
  have c8 : ¬ w < 8 := by rw [nI_leI (by omega) (by omega)] at c8; omega
  refine lv_iload C.hx C.hb dL_law_832 (lv_at hl1 6 rfl) ?_
  refine lv_bipush (v := nI 8) C.hx C.hb dL_law_834 (by decide +kernel) ?_
  refine lv_icmp_ne (tgt := 939) C.hx C.hb dL_law_836 (by decide) (fun c8 => ?_) (fun _ => lc8 C hr hI hy ht hi hj kk H locs ls hP hD hS hl1)
  have c8 : ¬ w = 8 := fun q => c8 (by rw [q])
  refine lv_iload C.hx C.hb dL_law_939 (lv_at hl1 6 rfl) ?_
  refine lv_bipush (v := nI 9) C.hx C.hb dL_law_941 (by decide +kernel) ?_
  refine lv_icmp_ne (tgt := 1066) C.hx C.hb dL_law_943 (by decide) (fun c9 => ?_) (fun _ => lc9 C hr hI hi hj kk H locs ls hP hD hS (lv_sub hl1 [0, 1, 2, 3, 4, 9, 10] rfl))
  have c9 : ¬ w = 9 := fun q => c9 (by rw [q])
  refine lv_iload C.hx C.hb dL_law_1066 (lv_at hl1 6 rfl) ?_
  refine lv_bipush (v := nI 10) C.hx C.hb dL_law_1068 (by decide +kernel) ?_
  refine lv_icmp_ne (tgt := 1169) C.hx C.hb dL_law_1070 (by decide) (fun c10 => ?_) (fun _ => lc10 C hr hI hy ht hi hj kk H locs ls hP hD hS hl1)
  have c10 : ¬ w = 10 := fun q => c10 (by rw [q])
  exact lc11 C hr hI hy kk H locs ls hP hD hS (lv_sub hl1 [0, 1, 2, 3, 4, 7] rfl)

