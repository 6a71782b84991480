/-! the best of a few, by the reference -/
def wpM (g : Nat → Nat → Int32) (i j : Nat) : Int32 := if (hof (g 1 i) (g 1 j) || hasB (g 10 i) (nI j)) = true then (-1000000) else nI (wtN g i j) - nI 3
def wmI (g : Nat → Nat → Int32) (ch : Nat → Int32) (x acc : Int32) (k : Nat) : Nat → Int32
  | 0 => acc
  | m + 1 => if hasB x (nI k) = true ∧ hasB x (nI m) = true then wmI g ch x acc k m + wpM g (q_n (ch k)) (q_n (ch m)) else wmI g ch x acc k m
def wmO (g : Nat → Nat → Int32) (ch : Nat → Int32) (x : Int32) : Nat → Int32
  | 0 => nI 0
  | k + 1 => wmI g ch x (wmO g ch x k) k k
theorem wmI_t {g : Nat → Nat → Int32} {ch : Nat → Int32} {x acc : Int32} {k m : Nat} (h : hasB x (nI k) = true) (h2 : hasB x (nI m) = true) : wmI g ch x acc k m + wpM g (q_n (ch k)) (q_n (ch m)) = wmI g ch x acc k (m + 1) := by rw [wmI, if_pos ⟨h, h2⟩]
theorem wmI_f {g : Nat → Nat → Int32} {ch : Nat → Int32} {x acc : Int32} {k m : Nat} (h : ¬ (hasB x (nI k) = true ∧ hasB x (nI m) = true)) : wmI g ch x acc k m = wmI g ch x acc k (m + 1) := by rw [wmI, if_neg h]
def choM (w : Int32) (f : Nat → Int32) : Nat → Nat → Int32
  | 0 => f
  | k + 1 => if hasB w (nI k) = true ∧ bitC w k < 6 then upd (choM w f k) (bitC w k) (nI k) else choM w f k
theorem choM_t {w : Int32} {f : Nat → Int32} {k : Nat} (h : hasB w (nI k) = true) (h2 : bitC w k < 6) : upd (choM w f k) (bitC w k) (nI k) = choM w f (k + 1) := by rw [choM, if_pos ⟨h, h2⟩]
theorem choM_f {w : Int32} {f : Nat → Int32} {k : Nat} (h : ¬ (hasB w (nI k) = true ∧ bitC w k < 6)) : choM w f k = choM w f (k + 1) := by rw [choM, if_neg h]
theorem choM_0 {w : Int32} {f : Nat → Int32} : choM w f 0 = f := rfl
theorem choM_r {w : Int32} {f : Nat → Int32} (hf : ∀ j, j < 6 → q_r (f j) 16) : ∀ k, k ≤ 16 → ∀ j, j < 6 → q_r (choM w f k j) 16
  | 0, _, j, hj => hf j hj
  | k + 1, hk, j, hj => by
    rw [choM]
    split
    · by_cases e : j = bitC w k
      · simp only [upd, e, if_true]; exact q_r_nI (by omega)
      · simp only [upd, e, if_false]; exact choM_r hf k (by omega) j hj
    · exact choM_r hf k (by omega) j hj
theorem bitC_le (w : Int32) : ∀ k, bitC w k ≤ k
  | 0 => Nat.le_refl 0
  | k + 1 => by
    have := bitC_le w k
    rw [bitC]; split <;> omega
theorem bitC_addb {w : Int32} {k : Nat} : nI (bitC w k) + q_b (hasB w (nI k)) = nI (bitC w (k + 1)) := by
  rw [q_addb, bitC]
  cases hasB w (nI k) <;> simp
theorem pw16_m1 : ∀ n, n ≤ 16 → (nI 1 <<< (nI n &&& 31)) - nI 1 = nI (2 ^ n - 1) := by decide +kernel
theorem pw6 : ∀ n, n ≤ 6 → nI 1 <<< (nI n &&& 31) = nI (2 ^ n) := by decide +kernel
theorem q_sand : ∀ a, a < 64 → ∀ r, r < 64 → nI a &&& (nI r ^^^ (-1)) = nI (a &&& (63 ^^^ r)) := by decide +kernel
theorem iN_pw {n k : Nat} (h : n < 2 ^ k) (hk : k ≤ 16) : ¬ nI n < nI 0 ∧ nI n ≤ nI (2 ^ k - 1) := by
  have h2 : 2 ^ k ≤ 2 ^ 16 := Nat.pow_le_pow_right (by omega) hk
  exact ⟨nI_nlt (by omega) (by omega), nI_le (by omega) (by omega)⟩
def gbI (W tb : Nat → Int32) (s : Nat) : Nat → Nat → Int32 → Int32
  | 0, _, b => b
  | u + 1, gr, b => if gr = 0 then b else gbI W tb s u ((gr - 1) &&& s) (if gr &&& lowB s = 0 then b else mx b (W gr + tb (s &&& (63 ^^^ gr))))
theorem gbI_0 {W tb : Nat → Int32} {s : Nat} {b : Int32} : ∀ u, gbI W tb s u 0 b = b
  | 0 => rfl
  | u + 1 => by rw [gbI, if_pos rfl]
theorem gbI_s {W tb : Nat → Int32} {s u gr : Nat} {b X : Int32} (h : gbI W tb s u gr b = X) (hu : gr ≤ u) (h0 : 0 < gr) : gbI W tb s (u - 1) ((gr - 1) &&& s) (if gr &&& lowB s = 0 then b else mx b (W gr + tb (s &&& (63 ^^^ gr)))) = X := by
  obtain ⟨v, rfl⟩ : ∃ v, u = v + 1 := ⟨u - 1, by omega⟩
  rw [gbI, if_neg (by omega)] at h
  exact h
def grT (W f : Nat → Int32) : Nat → Nat → Int32
  | 0 => upd f 0 (nI 0)
  | k + 1 => upd (grT W f k) (k + 1) (gbI W (grT W f k) (k + 1) (k + 1) (k + 1) (-1000000))
theorem grT_s {W f : Nat → Int32} {k : Nat} {X : Int32} (h : X = gbI W (grT W f k) (k + 1) (k + 1) (k + 1) (-1000000)) : upd (grT W f k) (k + 1) X = grT W f (k + 1) := by rw [h]; rfl
theorem wmI_gs {g : Nat → Nat → Int32} {ch f f2 : Nat → Int32} {x acc : Int32} {k : Nat} : ∀ m, wmI (gs (gs g 24 f) 27 f2) ch x acc k m = wmI g ch x acc k m
  | 0 => rfl
  | m + 1 => by rw [wmI, wmI, wmI_gs m]; rfl
theorem wmO_gs {g : Nat → Nat → Int32} {ch f f2 : Nat → Int32} {x : Int32} : ∀ k, wmO (gs (gs g 24 f) 27 f2) ch x k = wmO g ch x k
  | 0 => rfl
  | k + 1 => by rw [wmO, wmO, wmO_gs k, wmI_gs]
theorem wmO_gs6 {g : Nat → Nat → Int32} {ch f f2 : Nat → Int32} {x y : Int32} (h : wmO g ch x 6 = y) : wmO (gs (gs g 24 f) 27 f2) ch x 6 = y := (wmO_gs 6).trans h
abbrev rm_X6_worth : Room := { frames := 2, cells := 0, slots := 0, locals := 44 }
set_option maxRecDepth 100000 in
set_option maxHeartbeats 4000000 in
theorem c_X6_worth (l : Launch) (D : va_G) (cA : ClassId) (ad : Nat → Nat) (g : Nat → Nat → Int32) (z : Nat → Nat) (x : Int32) (WV : Int32) (hch : ∀ k, k < 6 → q_r ((g 24) k) 16) (hWV : wmO g (g 24) x 6 = WV) : q_CI l yX6_worth [Cond.code yX6_worth cX6_worth 6 (some .int)] rm_X6_worth D cA [.ref (ad 80), .int x] (mdW cA ad g z) WV (mdW cA ad g z) := by
  refine q_startI RX6 (by decide +kernel) rfl (Nat.le_of_ble_eq_true rfl) ?_
  intro p e s m below meth c A args H locs ls hx hb hr hml hown hT hlk hP hK hD hA hS hl
  have hl : lv_has ls 6 [(0, .ref (ad 80)), (1, .int x)] := hl
  have zqL4 : ∀ (fu : Nat), ∀ (k : Nat), (7 ≤ k + fu) → (k ≤ 6) → ∀ (H : Heap) (locs : List Loc) (ls : Array Slot), va_P D vwCl (mdW cA ad g z) H → va_D A (mdW cA ad g z) → va_S A s.heap H locs → lv_has ls 6 [(0, .ref (ad 80)), (1, .int x), (2, .int (wmO g (g 24) x k)), (3, .int (nI k))] → W p l e rm_X6_worth s m args below meth c H locs 0 0 (q_GI D WV (mdW cA ad g z) A below args s) (F0 m 4 ls []) := by
    intro fu
    induction fu with
    | zero =>
      intro k hfu hk H locs ls hP hD hS hl
      exfalso; omega
    | succ fu ih4 =>
      intro k hfu hk H locs ls hP hD hS hl
      have zqL13 : ∀ (fu : Nat), ∀ (m9 : Nat), (k + 1 ≤ m9 + fu) → (m9 ≤ k) → (k < 6) → ∀ (H : Heap) (locs : List Loc) (ls : Array Slot), va_P D vwCl (mdW cA ad g z) H → va_D A (mdW cA ad g z) → va_S A s.heap H locs → lv_has ls 6 [(0, .ref (ad 80)), (1, .int x), (2, .int (wmI g (g 24) x (wmO g (g 24) x k) k m9)), (3, .int (nI k)), (4, .int (nI m9))] → W p l e rm_X6_worth s m args below meth c H locs 0 0 (q_GI D WV (mdW cA ad g z) A below args s) (F0 m 13 ls []) := by
        intro fu
        induction fu with
        | zero =>
          intro m9 hfu hm8 hk9 H locs ls hP hD hS hl
          exfalso; omega
        | succ fu ih13 =>
          intro m9 hfu hm8 hk9 H locs ls hP hD hS hl
          have zqJ119 : (m9 < k) → ∀ (H : Heap) (locs : List Loc) (ls : Array Slot), va_P D vwCl (mdW cA ad g z) H → va_D A (mdW cA ad g z) → va_S A s.heap H locs → lv_has ls 6 [(0, .ref (ad 80)), (1, .int x), (2, .int (wmI g (g 24) x (wmO g (g 24) x k) k (m9 + 1))), (3, .int (nI k)), (4, .int (nI m9))] → W p l e rm_X6_worth s m args below meth c H locs 0 0 (q_GI D WV (mdW cA ad g z) A below args s) (F0 m 119 ls []) := by
            intro  hm7 H locs ls hP hD hS hl
            refine lv_iinc (v := nI (m9 + 1)) (lv' := [(4, .int (nI (m9 + 1))), (0, .ref (ad 80)), (1, .int x), (2, .int (wmI g (g 24) x (wmO g (g 24) x k) k (m9 + 1))), (3, .int (nI k))]) hx hb dX6_worth_119 hl (k := 4) rfl (q_inc1 _) (by decide) rfl (fun ls hl => ?_)
            refine lv_goto (tgt := 13) hx hb dX6_worth_122 (by decide) ?_
            exact ih13 (m9 + 1) (by omega) (by omega) (by omega) _ _ _ hP hD hS (lv_sub hl [1, 2, 3, 4, 0] rfl)
          have zqJ117 : (m9 < k) → (hasB x (nI k) = true) → (hasB x (nI m9) = true) → ∀ (H : Heap) (locs : List Loc) (ls : Array Slot), va_P D vwCl (mdW cA ad g z) H → va_D A (mdW cA ad g z) → va_S A s.heap H locs → lv_has ls 6 [(0, .ref (ad 80)), (1, .int x), (3, .int (nI k)), (4, .int (nI m9))] → W p l e rm_X6_worth s m args below meth c H locs 0 0 (q_GI D WV (mdW cA ad g z) A below args s) (F0 m 117 ls [.int (wpM g (q_n (g 24 k)) (q_n (g 24 m9))), .int (wmI g (g 24) x (wmO g (g 24) x k) k m9)]) := by
            intro  hm7 hh1 hh2 H locs ls hP hD hS hl
            refine lv_iadd hx hb dX6_worth_117 ?_
            refine lv_istore_n (lv' := [(2, .int ((wmI g (g 24) x (wmO g (g 24) x k) k m9) + (wpM g (q_n (g 24 k)) (q_n (g 24 m9))))), (0, .ref (ad 80)), (1, .int x), (3, .int (nI k)), (4, .int (nI m9))]) hx hb dX6_worth_118 rfl hl (by decide) rfl (fun ls hl => ?_)
            have e9_0 : ((wmI g (g 24) x (wmO g (g 24) x k) k m9) + (wpM g (q_n (g 24 k)) (q_n (g 24 m9)))) = (wmI g (g 24) x (wmO g (g 24) x k) k (m9 + 1)) := by first | with_reducible rfl | (first | rw [wmI_t hh1 hh2] | rw [wmI_f (fun h => Bool.false_ne_true (c_24.symm.trans h.1))] | rw [wmI_f (fun h => Bool.false_ne_true (c_33.symm.trans h.2))])
            have hl9 : lv_has ls 6 [(0, .ref (ad 80)), (1, .int x), (2, .int (wmI g (g 24) x (wmO g (g 24) x k) k (m9 + 1))), (3, .int (nI k)), (4, .int (nI m9))] := lv_cast (l := [(0, .ref (ad 80)), (1, .int x), (2, .int ((wmI g (g 24) x (wmO g (g 24) x k) k m9) + (wpM g (q_n (g 24 k)) (q_n (g 24 m9))))), (3, .int (nI k)), (4, .int (nI m9))]) (lv_sub hl [1, 2, 0, 3, 4] rfl) (congrArg (fun v9 : Int32 => ([(0, .ref (ad 80)), (1, .int x), (2, .int v9), (3, .int (nI k)), (4, .int (nI m9))] : List (Nat × Value))) e9_0)
            exact zqJ119  (by omega) _ _ _ hP hD hS hl9
          have zqJ85 : (m9 < k) → (hasB x (nI k) = true) → (hasB x (nI m9) = true) → ∀ (H : Heap) (locs : List Loc) (ls : Array Slot), va_P D vwCl (mdW cA ad g z) H → va_D A (mdW cA ad g z) → va_S A s.heap H locs → lv_has ls 6 [(0, .ref (ad 80)), (1, .int x), (2, .int (wmI g (g 24) x (wmO g (g 24) x k) k m9)), (3, .int (nI k)), (4, .int (nI m9))] → W p l e rm_X6_worth s m args below meth c H locs 0 0 (q_GI D WV (mdW cA ad g z) A below args s) (F0 m 85 ls [.int (q_b (hof (g 1 (q_n (g 24 k))) (g 1 (q_n (g 24 m9))) || hasB (g 10 (q_n (g 24 k))) (nI (q_n (g 24 m9)))))]) := by
            intro  hm7 hh1 hh2 H locs ls hP hD hS hl
            refine lv_istore (lv' := [(5, .int (q_b (hof (g 1 (q_n (g 24 k))) (g 1 (q_n (g 24 m9))) || hasB (g 10 (q_n (g 24 k))) (nI (q_n (g 24 m9)))))), (0, .ref (ad 80)), (1, .int x), (2, .int (wmI g (g 24) x (wmO g (g 24) x k) k m9)), (3, .int (nI k)), (4, .int (nI m9))]) hx hb dX6_worth_85 hl (by decide) rfl (fun ls hl => ?_)
            refine lv_iload_n hx hb dX6_worth_87 rfl (lv_at hl 3 rfl) ?_
            refine lv_iload hx hb dX6_worth_88 (lv_at hl 0 rfl) ?_
            refine lv_if_eq (tgt := 98) hx hb dX6_worth_90 (by decide) (fun c_90 => ?_) (fun c_90 => ?_)
            · have c_90 := q_b0e c_90
              refine lv_aload_n hx hb dX6_worth_98 rfl (lv_at hl 1 rfl) ?_
              refine lv_aload_n hx hb dX6_worth_99 rfl (lv_at hl 1 rfl) ?_
              refine q_get hx hb hT hown hK hP kw_X6 0 rfl rfl 25 (by decide) kf_X6_76 rfl (v := .ref (ad 24)) rfl dX6_worth_100 ?_
              refine lv_iload_n hx hb dX6_worth_103 rfl (lv_at hl 4 rfl) ?_
              refine q_iald (f := g 24) hx hb hK hP 23 0 rfl rfl (k) rfl (by omega) (by omega) dX6_worth_104 ?_
              refine q_top (y := nI (q_n (g 24 k))) ((hch k (by omega)).eq (by omega)) ?_
              refine lv_aload_n hx hb dX6_worth_105 rfl (lv_at hl 1 rfl) ?_
              refine q_get hx hb hT hown hK hP kw_X6 0 rfl rfl 25 (by decide) kf_X6_76 rfl (v := .ref (ad 24)) rfl dX6_worth_106 ?_
              refine lv_iload hx hb dX6_worth_109 (lv_at hl 5 rfl) ?_
              refine q_iald (f := g 24) hx hb hK hP 23 0 rfl rfl (m9) rfl (by omega) (by omega) dX6_worth_111 ?_
              refine q_top (y := nI (q_n (g 24 m9))) ((hch m9 (by omega)).eq (by omega)) ?_
              refine q_callIW (As := [.int (nI (q_n (g 24 k))), .int (nI (q_n (g 24 m9)))]) (r := nI (wtN g (q_n (g 24 k)) (q_n (g 24 m9)))) (w1 := mdW cA ad g z) hx hb hml hown hT hK hP hD hS hA (c_X6_weightOf l D cA ad g z (q_n (g 24 k)) (q_n (g 24 m9)) ((hch k (by omega)).lt (by omega)) ((hch m9 (by omega)).lt (by omega))) k_X6_weightOf kl_X6_139 (q0 := 0) rfl rfl rfl ((mdW_adr _ _ _ _).trans (mdW_adr _ _ _ _).symm) hl rfl rfl (Nat.le_of_ble_eq_true rfl) ⟨⟨rfl, rfl⟩, Nat.le_of_ble_eq_true rfl, Nat.le_of_ble_eq_true rfl⟩ ⟨Nat.zero_le _, Nat.zero_le _⟩ dX6_worth_112 (fun H locs hP hD hS => ?_)
              refine lv_iconst (v := nI 3) hx hb dX6_worth_115 (by decide +kernel) ?_
              refine lv_isub hx hb dX6_worth_116 ?_
              refine q_top (y := wpM g (q_n (g 24 k)) (q_n (g 24 m9))) (by first | rw [wpM, if_pos c_90] | rw [wpM, if_neg (by rw [c_90]; exact Bool.false_ne_true)]) ?_
              exact zqJ117  (by omega) hh1 hh2 _ _ _ hP hD hS (lv_sub hl [1, 2, 4, 5] rfl)
            · have c_90 := q_b0n c_90
              refine lv_ldc (v := (-1000000)) hx hb hown (hT.use kk_X6_170 args) dX6_worth_93 ?_
              refine lv_goto (tgt := 117) hx hb dX6_worth_95 (by decide) ?_
              refine q_top (y := wpM g (q_n (g 24 k)) (q_n (g 24 m9))) (by first | rw [wpM, if_pos c_90] | rw [wpM, if_neg (by rw [c_90]; exact Bool.false_ne_true)]) ?_
              exact zqJ117  (by omega) hh1 hh2 _ _ _ hP hD hS (lv_sub hl [1, 2, 4, 5] rfl)
          refine lv_iload hx hb dX6_worth_13 (lv_at hl 4 rfl) ?_
          refine lv_iload_n hx hb dX6_worth_15 rfl (lv_at hl 3 rfl) ?_
          refine lv_icmp_ge (tgt := 125) hx hb dX6_worth_16 (by decide) (fun c_16 => ?_) (fun c_16 => ?_)
          · have c_16 := nI_le1 (a := k) (b := m9) (by omega) (by omega) c_16
            refine lv_iinc (v := nI (k + 1)) (lv' := [(3, .int (nI (k + 1))), (0, .ref (ad 80)), (1, .int x), (2, .int (wmI g (g 24) x (wmO g (g 24) x k) k m9)), (4, .int (nI m9))]) hx hb dX6_worth_125 hl (k := 3) rfl (q_inc1 _) (by decide) rfl (fun ls hl => ?_)
            refine lv_goto (tgt := 4) hx hb dX6_worth_128 (by decide) ?_
            have e9_0 : (wmI g (g 24) x (wmO g (g 24) x k) k m9) = (wmO g (g 24) x (k + 1)) := by first | with_reducible rfl | (rw [show m9 = k by omega]; rfl)
            have hl9 : lv_has ls 6 [(0, .ref (ad 80)), (1, .int x), (2, .int (wmO g (g 24) x (k + 1))), (3, .int (nI (k + 1)))] := lv_cast (l := [(0, .ref (ad 80)), (1, .int x), (2, .int (wmI g (g 24) x (wmO g (g 24) x k) k m9)), (3, .int (nI (k + 1)))]) (lv_sub hl [1, 2, 3, 0] rfl) (congrArg (fun v9 : Int32 => ([(0, .ref (ad 80)), (1, .int x), (2, .int v9), (3, .int (nI (k + 1)))] : List (Nat × Value))) e9_0)
            exact ih4 (k + 1) (by omega) (by omega) _ _ _ hP hD hS hl9
          · have c_16 := nI_le0 (a := k) (b := m9) (by omega) (by omega) c_16
            refine lv_iload_n hx hb dX6_worth_19 rfl (lv_at hl 1 rfl) ?_
            refine lv_iload_n hx hb dX6_worth_20 rfl (lv_at hl 3 rfl) ?_
            refine q_callSI (As := [.int x, .int (nI k)]) (r := q_b (hasB x (nI k))) hx hb hml hown hT hK hP hD hS hA (c_X6_has l D cA x (nI k)) k_X6_has kl_X6_104 hl rfl rfl (Nat.le_of_ble_eq_true rfl) ⟨⟨rfl, rfl⟩, Nat.le_of_ble_eq_true rfl, Nat.le_of_ble_eq_true rfl⟩ ⟨Nat.zero_le _, Nat.zero_le _⟩ dX6_worth_21 (fun H locs hP hD hS => ?_)
            refine lv_if_eq (tgt := 119) hx hb dX6_worth_24 (by decide) (fun c_24 => ?_) (fun c_24 => ?_)
            · have c_24 := q_b0e c_24
              have e9_0 : (wmI g (g 24) x (wmO g (g 24) x k) k m9) = (wmI g (g 24) x (wmO g (g 24) x k) k (m9 + 1)) := by first | with_reducible rfl | (first | rw [wmI_t hh1 hh2] | rw [wmI_f (fun h => Bool.false_ne_true (c_24.symm.trans h.1))] | rw [wmI_f (fun h => Bool.false_ne_true (c_33.symm.trans h.2))])
              have hl9 : lv_has ls 6 [(0, .ref (ad 80)), (1, .int x), (2, .int (wmI g (g 24) x (wmO g (g 24) x k) k (m9 + 1))), (3, .int (nI k)), (4, .int (nI m9))] := lv_cast (l := [(0, .ref (ad 80)), (1, .int x), (2, .int (wmI g (g 24) x (wmO g (g 24) x k) k m9)), (3, .int (nI k)), (4, .int (nI m9))]) (lv_sub hl [0, 1, 2, 3, 4] rfl) (congrArg (fun v9 : Int32 => ([(0, .ref (ad 80)), (1, .int x), (2, .int v9), (3, .int (nI k)), (4, .int (nI m9))] : List (Nat × Value))) e9_0)
              exact zqJ119  (by omega) _ _ _ hP hD hS hl9
            · have c_24 := q_b0n c_24
              refine lv_iload_n hx hb dX6_worth_27 rfl (lv_at hl 1 rfl) ?_
              refine lv_iload hx hb dX6_worth_28 (lv_at hl 4 rfl) ?_
              refine q_callSI (As := [.int x, .int (nI m9)]) (r := q_b (hasB x (nI m9))) hx hb hml hown hT hK hP hD hS hA (c_X6_has l D cA x (nI m9)) k_X6_has kl_X6_104 hl rfl rfl (Nat.le_of_ble_eq_true rfl) ⟨⟨rfl, rfl⟩, Nat.le_of_ble_eq_true rfl, Nat.le_of_ble_eq_true rfl⟩ ⟨Nat.zero_le _, Nat.zero_le _⟩ dX6_worth_30 (fun H locs hP hD hS => ?_)
              refine lv_if_eq (tgt := 119) hx hb dX6_worth_33 (by decide) (fun c_33 => ?_) (fun c_33 => ?_)
              · have c_33 := q_b0e c_33
                have e9_0 : (wmI g (g 24) x (wmO g (g 24) x k) k m9) = (wmI g (g 24) x (wmO g (g 24) x k) k (m9 + 1)) := by first | with_reducible rfl | (first | rw [wmI_t hh1 hh2] | rw [wmI_f (fun h => Bool.false_ne_true (c_24.symm.trans h.1))] | rw [wmI_f (fun h => Bool.false_ne_true (c_33.symm.trans h.2))])
                have hl9 : lv_has ls 6 [(0, .ref (ad 80)), (1, .int x), (2, .int (wmI g (g 24) x (wmO g (g 24) x k) k (m9 + 1))), (3, .int (nI k)), (4, .int (nI m9))] := lv_cast (l := [(0, .ref (ad 80)), (1, .int x), (2, .int (wmI g (g 24) x (wmO g (g 24) x k) k m9)), (3, .int (nI k)), (4, .int (nI m9))]) (lv_sub hl [0, 1, 2, 3, 4] rfl) (congrArg (fun v9 : Int32 => ([(0, .ref (ad 80)), (1, .int x), (2, .int v9), (3, .int (nI k)), (4, .int (nI m9))] : List (Nat × Value))) e9_0)
                exact zqJ119  (by omega) _ _ _ hP hD hS hl9
              · have c_33 := q_b0n c_33
                refine lv_aload_n hx hb dX6_worth_36 rfl (lv_at hl 0 rfl) ?_
                refine lv_aload_n hx hb dX6_worth_37 rfl (lv_at hl 0 rfl) ?_
                refine q_get hx hb hT hown hK hP kw_X6 0 rfl rfl 25 (by decide) kf_X6_76 rfl (v := .ref (ad 24)) rfl dX6_worth_38 ?_
                refine lv_iload_n hx hb dX6_worth_41 rfl (lv_at hl 3 rfl) ?_
                refine q_iald (f := g 24) hx hb hK hP 23 0 rfl rfl (k) rfl (by omega) (by omega) dX6_worth_42 ?_
                refine q_top (y := nI (q_n (g 24 k))) ((hch k (by omega)).eq (by omega)) ?_
                refine lv_aload_n hx hb dX6_worth_43 rfl (lv_at hl 0 rfl) ?_
                refine q_get hx hb hT hown hK hP kw_X6 0 rfl rfl 25 (by decide) kf_X6_76 rfl (v := .ref (ad 24)) rfl dX6_worth_44 ?_
                refine lv_iload hx hb dX6_worth_47 (lv_at hl 4 rfl) ?_
                refine q_iald (f := g 24) hx hb hK hP 23 0 rfl rfl (m9) rfl (by omega) (by omega) dX6_worth_49 ?_
                refine q_top (y := nI (q_n (g 24 m9))) ((hch m9 (by omega)).eq (by omega)) ?_
                refine q_callIW (As := [.int (nI (q_n (g 24 k))), .int (nI (q_n (g 24 m9)))]) (r := q_b (hof ((g 1) (q_n (g 24 k))) ((g 1) (q_n (g 24 m9))))) (w1 := mdW cA ad g z) hx hb hml hown hT hK hP hD hS hA (c_X6_areOfUnlikeFamilies l D cA ad g z (q_n (g 24 k)) (q_n (g 24 m9)) ((hch k (by omega)).lt (by omega)) ((hch m9 (by omega)).lt (by omega))) k_X6_areOfUnlikeFamilies kl_X6_143 (q0 := 0) rfl rfl rfl ((mdW_adr _ _ _ _).trans (mdW_adr _ _ _ _).symm) hl rfl rfl (Nat.le_of_ble_eq_true rfl) ⟨⟨rfl, rfl⟩, Nat.le_of_ble_eq_true rfl, Nat.le_of_ble_eq_true rfl⟩ ⟨Nat.zero_le _, Nat.zero_le _⟩ dX6_worth_50 (fun H locs hP hD hS => ?_)
                refine lv_if_ne (tgt := 80) hx hb dX6_worth_53 (by decide) (fun c_53 => ?_) (fun c_53 => ?_)
                · have c_53 := q_b0n c_53
                  refine lv_iconst (v := nI 1) hx hb dX6_worth_80 (by decide +kernel) ?_
                  refine lv_goto (tgt := 85) hx hb dX6_worth_81 (by decide) ?_
                  refine q_top (y := q_b (hof (g 1 (q_n (g 24 k))) (g 1 (q_n (g 24 m9))) || hasB (g 10 (q_n (g 24 k))) (nI (q_n (g 24 m9))))) (by first | exact q_bt (by rw [c_53]; rfl) | exact q_bt (by rw [c_53, c_77]; rfl) | exact q_bf (by rw [c_53, c_77]; rfl)) ?_
                  exact zqJ85  (by omega) c_24 c_33 _ _ _ hP hD hS (lv_sub hl [0, 1, 2, 3, 4] rfl)
                · have c_53 := q_b0e c_53
                  refine lv_aload_n hx hb dX6_worth_56 rfl (lv_at hl 0 rfl) ?_
                  refine q_get hx hb hT hown hK hP kw_X6 0 rfl rfl 8 (by decide) kf_X6_31 rfl (v := .ref (ad 10)) rfl dX6_worth_57 ?_
                  refine lv_aload_n hx hb dX6_worth_60 rfl (lv_at hl 0 rfl) ?_
                  refine q_get hx hb hT hown hK hP kw_X6 0 rfl rfl 25 (by decide) kf_X6_76 rfl (v := .ref (ad 24)) rfl dX6_worth_61 ?_
                  refine lv_iload_n hx hb dX6_worth_64 rfl (lv_at hl 3 rfl) ?_
                  refine q_iald (f := g 24) hx hb hK hP 23 0 rfl rfl (k) rfl (by omega) (by omega) dX6_worth_65 ?_
                  refine q_top (y := nI (q_n (g 24 k))) ((hch k (by omega)).eq (by omega)) ?_
                  refine q_iald (f := g 10) hx hb hK hP 8 0 rfl rfl (q_n (g 24 k)) rfl ((hch k (by omega)).lt (by omega)) (by omega) dX6_worth_66 ?_
                  refine lv_aload_n hx hb dX6_worth_67 rfl (lv_at hl 0 rfl) ?_
                  refine q_get hx hb hT hown hK hP kw_X6 0 rfl rfl 25 (by decide) kf_X6_76 rfl (v := .ref (ad 24)) rfl dX6_worth_68 ?_
                  refine lv_iload hx hb dX6_worth_71 (lv_at hl 4 rfl) ?_
                  refine q_iald (f := g 24) hx hb hK hP 23 0 rfl rfl (m9) rfl (by omega) (by omega) dX6_worth_73 ?_
                  refine q_top (y := nI (q_n (g 24 m9))) ((hch m9 (by omega)).eq (by omega)) ?_
                  refine q_callSI (As := [.int (g 10 (q_n (g 24 k))), .int (nI (q_n (g 24 m9)))]) (r := q_b (hasB (g 10 (q_n (g 24 k))) (nI (q_n (g 24 m9))))) hx hb hml hown hT hK hP hD hS hA (c_X6_has l D cA (g 10 (q_n (g 24 k))) (nI (q_n (g 24 m9)))) k_X6_has kl_X6_104 hl rfl rfl (Nat.le_of_ble_eq_true rfl) ⟨⟨rfl, rfl⟩, Nat.le_of_ble_eq_true rfl, Nat.le_of_ble_eq_true rfl⟩ ⟨Nat.zero_le _, Nat.zero_le _⟩ dX6_worth_74 (fun H locs hP hD hS => ?_)
                  refine lv_if_eq (tgt := 84) hx hb dX6_worth_77 (by decide) (fun c_77 => ?_) (fun c_77 => ?_)
                  · have c_77 := q_b0e c_77
                    refine lv_iconst (v := nI 0) hx hb dX6_worth_84 (by decide +kernel) ?_
                    refine q_top (y := q_b (hof (g 1 (q_n (g 24 k))) (g 1 (q_n (g 24 m9))) || hasB (g 10 (q_n (g 24 k))) (nI (q_n (g 24 m9))))) (by first | exact q_bt (by rw [c_53]; rfl) | exact q_bt (by rw [c_53, c_77]; rfl) | exact q_bf (by rw [c_53, c_77]; rfl)) ?_
                    exact zqJ85  (by omega) c_24 c_33 _ _ _ hP hD hS (lv_sub hl [0, 1, 2, 3, 4] rfl)
                  · have c_77 := q_b0n c_77
                    refine lv_iconst (v := nI 1) hx hb dX6_worth_80 (by decide +kernel) ?_
                    refine lv_goto (tgt := 85) hx hb dX6_worth_81 (by decide) ?_
                    refine q_top (y := q_b (hof (g 1 (q_n (g 24 k))) (g 1 (q_n (g 24 m9))) || hasB (g 10 (q_n (g 24 k))) (nI (q_n (g 24 m9))))) (by first | exact q_bt (by rw [c_53]; rfl) | exact q_bt (by rw [c_53, c_77]; rfl) | exact q_bf (by rw [c_53, c_77]; rfl)) ?_
                    exact zqJ85  (by omega) c_24 c_33 _ _ _ hP hD hS (lv_sub hl [0, 1, 2, 3, 4] rfl)
      refine lv_iload_n hx hb dX6_worth_4 rfl (lv_at hl 3 rfl) ?_
      refine lv_bipush (v := nI 6) hx hb dX6_worth_5 (by decide +kernel) ?_
      refine lv_icmp_ge (tgt := 131) hx hb dX6_worth_7 (by decide) (fun c_7 => ?_) (fun c_7 => ?_)
      · have c_7 := nI_le1 (a := 6) (b := k) (by omega) (by omega) c_7
        refine lv_iload_n hx hb dX6_worth_131 rfl (lv_at hl 2 rfl) ?_
        exact q_iret hx hb hr hlk (by rw [show k = 6 by omega]; exact hWV) hP hS dX6_worth_132
      · have c_7 := nI_le0 (a := 6) (b := k) (by omega) (by omega) c_7
        refine lv_iconst (v := nI 0) hx hb dX6_worth_10 (by decide +kernel) ?_
        refine lv_istore (lv' := [(4, .int (nI 0)), (0, .ref (ad 80)), (1, .int x), (2, .int (wmO g (g 24) x k)), (3, .int (nI k))]) hx hb dX6_worth_11 hl (by decide) rfl (fun ls hl => ?_)
        have e9_0 : (wmO g (g 24) x k) = (wmI g (g 24) x (wmO g (g 24) x k) k 0) := by first | with_reducible rfl | (rfl)
        have hl9 : lv_has ls 6 [(0, .ref (ad 80)), (1, .int x), (2, .int (wmI g (g 24) x (wmO g (g 24) x k) k 0)), (3, .int (nI k)), (4, .int (nI 0))] := lv_cast (l := [(0, .ref (ad 80)), (1, .int x), (2, .int (wmO g (g 24) x k)), (3, .int (nI k)), (4, .int (nI 0))]) (lv_sub hl [1, 2, 3, 4, 0] rfl) (congrArg (fun v9 : Int32 => ([(0, .ref (ad 80)), (1, .int x), (2, .int v9), (3, .int (nI k)), (4, .int (nI 0))] : List (Nat × Value))) e9_0)
        exact zqL13 (k + 1) 0 (by omega) (by omega) (by omega) _ _ _ hP hD hS hl9
  refine lv_iconst (v := nI 0) hx hb dX6_worth_0 (by decide +kernel) ?_
  refine lv_istore_n (lv' := [(2, .int (nI 0)), (0, .ref (ad 80)), (1, .int x)]) hx hb dX6_worth_1 rfl hl (by decide) rfl (fun ls hl => ?_)
  refine lv_iconst (v := nI 0) hx hb dX6_worth_2 (by decide +kernel) ?_
  refine lv_istore_n (lv' := [(3, .int (nI 0)), (2, .int (nI 0)), (0, .ref (ad 80)), (1, .int x)]) hx hb dX6_worth_3 rfl hl (by decide) rfl (fun ls hl => ?_)
  have e9_0 : (nI 0) = (wmO g (g 24) x 0) := by first | with_reducible rfl | (rfl)
  have hl9 : lv_has ls 6 [(0, .ref (ad 80)), (1, .int x), (2, .int (wmO g (g 24) x 0)), (3, .int (nI 0))] := lv_cast (l := [(0, .ref (ad 80)), (1, .int x), (2, .int (nI 0)), (3, .int (nI 0))]) (lv_sub hl [2, 3, 1, 0] rfl) (congrArg (fun v9 : Int32 => ([(0, .ref (ad 80)), (1, .int x), (2, .int v9), (3, .int (nI 0))] : List (Nat × Value))) e9_0)
  exact zqL4 (7) 0 (by omega) (by omega) _ _ _ hP hD hS hl9
abbrev rm_X6_tellsBest : Room := { frames := 3, cells := 0, slots := 0, locals := 69 }
set_option maxRecDepth 100000 in
set_option maxHeartbeats 4000000 in
theorem c_X6_tellsBest (l : Launch) (D : va_G) (cA : ClassId) (ad : Nat → Nat) (g : Nat → Nat → Int32) (z : Nat → Nat) (n9 : Nat) (bn : Nat) (N2 : Nat) (ch : Nat → Int32) (WW : Nat → Int32) (tb : Nat → Nat → Int32) (hn9 : n9 < 2 ^ (z 0)) (hbn : bitC (nI n9) 16 = bn) (hb9 : bn ≤ 6) (hN2 : N2 = 2 ^ bn) (hc : (z 0) ≤ 16) (hch : ∀ k, k < 6 → q_r ((g 24) k) 16) (hch9 : choM (nI n9) (g 24) 16 = ch) (hW9 : ∀ q, wmO g ch (nI q) 6 = WW q) (ht0 : upd (g 27) 0 (nI 0) = tb 0) (hts : ∀ k, upd (tb k) (k + 1) (gbI WW (tb k) (k + 1) (k + 1) (k + 1) (-1000000)) = tb (k + 1)) : q_CI l yX6_tellsBest [Cond.code yX6_tellsBest cX6_tellsBest 8 (some .int)] rm_X6_tellsBest D cA [.ref (ad 80), .int (nI n9)] (mdW cA ad g z) (tb (N2 - 1) (N2 - 1)) (mdW cA ad (gs (gs g 24 ch) 27 (tb (N2 - 1))) (zs z 4 0)) := by
  refine q_startI RX6 (by decide +kernel) rfl (Nat.le_of_ble_eq_true rfl) ?_
  intro p e s m below meth c A args H locs ls hx hb hr hml hown hT hlk hP hK hD hA hS hl
  have hl : lv_has ls 8 [(0, .ref (ad 80)), (1, .int (nI n9))] := hl
  have hpw := pw2_le _ hb9
  have hN3 : N2 ≤ 64 ∧ 1 ≤ N2 := by rw [hN2]; exact hpw
  have hch2 : ∀ k, k < 6 → q_r (ch k) 16 := by rw [← hch9]; exact choM_r hch 16 (Nat.le_refl _)
  have zqL4 : ∀ (fu : Nat), ∀ (k : Nat), (17 ≤ k + fu) → (k ≤ 16) → ∀ (H : Heap) (locs : List Loc) (ls : Array Slot), va_P D vwCl (mdW cA ad (gs g 24 (choM (nI n9) (g 24) k)) z) H → va_D A (mdW cA ad (gs g 24 (choM (nI n9) (g 24) k)) z) → va_S A s.heap H locs → lv_has ls 8 [(0, .ref (ad 80)), (1, .int (nI n9)), (2, .int (nI (bitC (nI n9) k))), (3, .int (nI k))] → W p l e rm_X6_tellsBest s m args below meth c H locs 0 0 (q_GI D (tb (N2 - 1) (N2 - 1)) (mdW cA ad (gs (gs g 24 ch) 27 (tb (N2 - 1))) (zs z 4 0)) A below args s) (F0 m 4 ls []) := by
    intro fu
    induction fu with
    | zero =>
      intro k hfu hk H locs ls hP hD hS hl
      exfalso; omega
    | succ fu ih4 =>
      intro k hfu hk H locs ls hP hD hS hl
      have hbl := bitC_le (nI n9) k
      have zqJ53 : ∀ (H : Heap) (locs : List Loc) (ls : Array Slot), va_P D vwCl (mdW cA ad (gs g 24 ch) z) H → va_D A (mdW cA ad (gs g 24 ch) z) → va_S A s.heap H locs → lv_has ls 8 [(0, .ref (ad 80)), (1, .int (nI n9)), (2, .int (nI bn))] → W p l e rm_X6_tellsBest s m args below meth c H locs 0 0 (q_GI D (tb (N2 - 1) (N2 - 1)) (mdW cA ad (gs (gs g 24 ch) 27 (tb (N2 - 1))) (zs z 4 0)) A below args s) (F0 m 53 ls []) := by
        intro   H locs ls hP hD hS hl
        have zqL102 : ∀ (fu : Nat), ∀ (k : Nat), (N2 + 1 ≤ k + fu) → (k + 1 ≤ N2) → ∀ (H : Heap) (locs : List Loc) (ls : Array Slot), va_P D vwCl (mdW cA ad (gs (gs g 24 ch) 27 (tb k)) (zs z 4 0)) H → va_D A (mdW cA ad (gs (gs g 24 ch) 27 (tb k)) (zs z 4 0)) → va_S A s.heap H locs → lv_has ls 8 [(0, .ref (ad 80)), (2, .int (nI bn)), (3, .int (nI (k + 1)))] → W p l e rm_X6_tellsBest s m args below meth c H locs 0 0 (q_GI D (tb (N2 - 1) (N2 - 1)) (mdW cA ad (gs (gs g 24 ch) 27 (tb (N2 - 1))) (zs z 4 0)) A below args s) (F0 m 102 ls []) := by
          intro fu
          induction fu with
          | zero =>
            intro k hfu hk8 H locs ls hP hD hS hl
            exfalso; omega
          | succ fu ih102 =>
            intro k hfu hk8 H locs ls hP hD hS hl
            have zqL122 : ∀ (fu : Nat), ∀ (gr : Nat) (b : Int32) (u9 : Nat), (gr + 1 ≤ fu) → (gr ≤ k + 1) → (gr ≤ u9) → (k + 1 < N2) → (gbI WW (tb k) (k + 1) u9 gr b = gbI WW (tb k) (k + 1) (k + 1) (k + 1) (-1000000)) → ∀ (H : Heap) (locs : List Loc) (ls : Array Slot), va_P D vwCl (mdW cA ad (gs (gs g 24 ch) 27 (tb k)) (zs z 4 0)) H → va_D A (mdW cA ad (gs (gs g 24 ch) 27 (tb k)) (zs z 4 0)) → va_S A s.heap H locs → lv_has ls 8 [(0, .ref (ad 80)), (2, .int (nI bn)), (3, .int (nI (k + 1))), (4, .int (nI (lowB (k + 1)))), (5, .int b), (6, .int (nI gr))] → W p l e rm_X6_tellsBest s m args below meth c H locs 0 0 (q_GI D (tb (N2 - 1) (N2 - 1)) (mdW cA ad (gs (gs g 24 ch) 27 (tb (N2 - 1))) (zs z 4 0)) A below args s) (F0 m 122 ls []) := by
              intro fu
              induction fu with
              | zero =>
                intro gr b u9 hfu hg1 hgu hk7 hre H locs ls hP hD hS hl
                exfalso; omega
              | succ fu ih122 =>
                intro gr b u9 hfu hg1 hgu hk7 hre H locs ls hP hD hS hl
                have zqJ171 : (0 < gr) → ∀ (H : Heap) (locs : List Loc) (ls : Array Slot), va_P D vwCl (mdW cA ad (gs (gs g 24 ch) 27 (tb k)) (zs z 4 0)) H → va_D A (mdW cA ad (gs (gs g 24 ch) 27 (tb k)) (zs z 4 0)) → va_S A s.heap H locs → lv_has ls 8 [(0, .ref (ad 80)), (2, .int (nI bn)), (3, .int (nI (k + 1))), (4, .int (nI (lowB (k + 1)))), (5, .int (if gr &&& lowB (k + 1) = 0 then b else mx b (WW gr + tb k ((k + 1) &&& (63 ^^^ gr))))), (6, .int (nI gr))] → W p l e rm_X6_tellsBest s m args below meth c H locs 0 0 (q_GI D (tb (N2 - 1) (N2 - 1)) (mdW cA ad (gs (gs g 24 ch) 27 (tb (N2 - 1))) (zs z 4 0)) A below args s) (F0 m 171 ls []) := by
                  intro  hg0 H locs ls hP hD hS hl
                  refine lv_iload hx hb dX6_tellsBest_171 (lv_at hl 5 rfl) ?_
                  refine lv_iconst (v := nI 1) hx hb dX6_tellsBest_173 (by decide +kernel) ?_
                  refine lv_isub hx hb dX6_tellsBest_174 ?_
                  refine q_top (y := nI (gr - 1)) (pk_sub (by omega)) ?_
                  refine lv_iload_n hx hb dX6_tellsBest_175 rfl (lv_at hl 2 rfl) ?_
                  refine lv_iand hx hb dX6_tellsBest_176 ?_
                  refine q_top (y := nI ((gr - 1) &&& (k + 1))) (q_andN _ _) ?_
                  refine lv_istore (lv' := [(6, .int (nI ((gr - 1) &&& (k + 1)))), (0, .ref (ad 80)), (2, .int (nI bn)), (3, .int (nI (k + 1))), (4, .int (nI (lowB (k + 1)))), (5, .int (if gr &&& lowB (k + 1) = 0 then b else mx b (WW gr + tb k ((k + 1) &&& (63 ^^^ gr)))))]) hx hb dX6_tellsBest_177 hl (by decide) rfl (fun ls hl => ?_)
                  refine lv_goto (tgt := 122) hx hb dX6_tellsBest_179 (by decide) ?_
                  exact ih122 ((gr - 1) &&& (k + 1)) (if gr &&& lowB (k + 1) = 0 then b else mx b (WW gr + tb k ((k + 1) &&& (63 ^^^ gr)))) (u9 - 1) (by have h7 := Nat.and_le_left (n := gr - 1) (m := k + 1); omega) (Nat.le_trans Nat.and_le_right (Nat.le_refl _)) (Nat.le_trans Nat.and_le_left (by omega)) (by omega) (gbI_s hre (by omega) (by omega)) _ _ _ hP hD hS (lv_sub hl [1, 2, 3, 4, 5, 0] rfl)
                have zqJ169 : (0 < gr) → (¬ gr &&& lowB (k + 1) = 0) → ∀ (H : Heap) (locs : List Loc) (ls : Array Slot), va_P D vwCl (mdW cA ad (gs (gs g 24 ch) 27 (tb k)) (zs z 4 0)) H → va_D A (mdW cA ad (gs (gs g 24 ch) 27 (tb k)) (zs z 4 0)) → va_S A s.heap H locs → lv_has ls 8 [(0, .ref (ad 80)), (2, .int (nI bn)), (3, .int (nI (k + 1))), (4, .int (nI (lowB (k + 1)))), (6, .int (nI gr))] → W p l e rm_X6_tellsBest s m args below meth c H locs 0 0 (q_GI D (tb (N2 - 1) (N2 - 1)) (mdW cA ad (gs (gs g 24 ch) 27 (tb (N2 - 1))) (zs z 4 0)) A below args s) (F0 m 169 ls [.int (mx b (WW gr + tb k ((k + 1) &&& (63 ^^^ gr))))]) := by
                  intro  hg0 hgl H locs ls hP hD hS hl
                  refine lv_istore (lv' := [(5, .int (mx b (WW gr + tb k ((k + 1) &&& (63 ^^^ gr))))), (0, .ref (ad 80)), (2, .int (nI bn)), (3, .int (nI (k + 1))), (4, .int (nI (lowB (k + 1)))), (6, .int (nI gr))]) hx hb dX6_tellsBest_169 hl (by decide) rfl (fun ls hl => ?_)
                  have e9_0 : (mx b (WW gr + tb k ((k + 1) &&& (63 ^^^ gr)))) = (if gr &&& lowB (k + 1) = 0 then b else mx b (WW gr + tb k ((k + 1) &&& (63 ^^^ gr)))) := by first | with_reducible rfl | (first | rw [if_pos (by omega)] | rw [if_neg (by omega)])
                  have hl9 : lv_has ls 8 [(0, .ref (ad 80)), (2, .int (nI bn)), (3, .int (nI (k + 1))), (4, .int (nI (lowB (k + 1)))), (5, .int (if gr &&& lowB (k + 1) = 0 then b else mx b (WW gr + tb k ((k + 1) &&& (63 ^^^ gr))))), (6, .int (nI gr))] := lv_cast (l := [(0, .ref (ad 80)), (2, .int (nI bn)), (3, .int (nI (k + 1))), (4, .int (nI (lowB (k + 1)))), (5, .int (mx b (WW gr + tb k ((k + 1) &&& (63 ^^^ gr))))), (6, .int (nI gr))]) (lv_sub hl [1, 2, 3, 4, 0, 5] rfl) (congrArg (fun v9 : Int32 => ([(0, .ref (ad 80)), (2, .int (nI bn)), (3, .int (nI (k + 1))), (4, .int (nI (lowB (k + 1)))), (5, .int v9), (6, .int (nI gr))] : List (Nat × Value))) e9_0)
                  exact zqJ171  (by omega) _ _ _ hP hD hS hl9
                refine lv_iload hx hb dX6_tellsBest_122 (lv_at hl 5 rfl) ?_
                refine lv_if_le (tgt := 182) hx hb dX6_tellsBest_124 (by decide) (fun c_124 => ?_) (fun c_124 => ?_)
                · have c_124 := nI_le1 (a := gr) (b := 0) (by omega) (by omega) c_124
                  refine lv_aload_n hx hb dX6_tellsBest_182 rfl (lv_at hl 0 rfl) ?_
                  refine q_get hx hb hT hown hK hP kw_X6 0 rfl rfl 26 (by decide) kf_X6_79 rfl (v := .ref (ad 27)) rfl dX6_tellsBest_183 ?_
                  refine lv_iload_n hx hb dX6_tellsBest_186 rfl (lv_at hl 2 rfl) ?_
                  refine lv_iload hx hb dX6_tellsBest_187 (lv_at hl 4 rfl) ?_
                  refine q_iast (f := tb k) (ws1 := mdW cA ad (gs (gs g 24 ch) 27 (upd (tb k) (k + 1) b)) (zs z 4 0)) hx hb hK hP hD hS 24 0 rfl rfl (k + 1) rfl (by omega) (by omega) rfl dX6_tellsBest_189 (fun H locs hP hD hS => ?_)
                  refine lv_iinc (v := nI (k + 2)) (lv' := [(3, .int (nI (k + 2))), (0, .ref (ad 80)), (2, .int (nI bn)), (4, .int (nI (lowB (k + 1)))), (5, .int b), (6, .int (nI gr))]) hx hb dX6_tellsBest_190 hl (k := 2) rfl (q_inc1 _) (by decide) rfl (fun ls hl => ?_)
                  refine lv_goto (tgt := 102) hx hb dX6_tellsBest_193 (by decide) ?_
                  have e9_0 : (nI (k + 2)) = (nI ((k + 1) + 1)) := by first | with_reducible rfl | (rfl)
                  have hl9 : lv_has ls 8 [(0, .ref (ad 80)), (2, .int (nI bn)), (3, .int (nI ((k + 1) + 1)))] := lv_cast (l := [(0, .ref (ad 80)), (2, .int (nI bn)), (3, .int (nI (k + 2)))]) (lv_sub hl [1, 2, 0] rfl) (congrArg (fun v9 : Int32 => ([(0, .ref (ad 80)), (2, .int (nI bn)), (3, .int v9)] : List (Nat × Value))) e9_0)
                  have ew9 : (mdW cA ad (gs (gs g 24 ch) 27 (upd (tb k) (k + 1) b)) (zs z 4 0)) = (mdW cA ad (gs (gs g 24 ch) 27 (tb (k + 1))) (zs z 4 0)) := by first | with_reducible rfl | (first | rw [ht0] | rw [← hts k, ← hre, show gr = 0 by omega, gbI_0])
                  have hP : va_P D vwCl (mdW cA ad (gs (gs g 24 ch) 27 (tb (k + 1))) (zs z 4 0)) H := va_cast' hP ew9
                  have hD : va_D A (mdW cA ad (gs (gs g 24 ch) 27 (tb (k + 1))) (zs z 4 0)) := va_castD hD ew9
                  exact ih102 (k + 1) (by omega) (by omega) _ _ _ hP hD hS hl9
                · have c_124 := nI_le0 (a := gr) (b := 0) (by omega) (by omega) c_124
                  have hal := Nat.and_le_left (n := gr) (m := lowB (k + 1))
                  refine lv_iload hx hb dX6_tellsBest_127 (lv_at hl 5 rfl) ?_
                  refine lv_iload hx hb dX6_tellsBest_129 (lv_at hl 3 rfl) ?_
                  refine lv_iand hx hb dX6_tellsBest_131 ?_
                  refine q_top (y := nI (gr &&& lowB (k + 1))) (q_andN _ _) ?_
                  refine lv_if_le (tgt := 171) hx hb dX6_tellsBest_132 (by decide) (fun c_132 => ?_) (fun c_132 => ?_)
                  · have c_132 := nI_le1 (a := gr &&& lowB (k + 1)) (b := 0) (by omega) (by omega) c_132
                    have e9_0 : b = (if gr &&& lowB (k + 1) = 0 then b else mx b (WW gr + tb k ((k + 1) &&& (63 ^^^ gr)))) := by first | with_reducible rfl | (first | rw [if_pos (by omega)] | rw [if_neg (by omega)])
                    have hl9 : lv_has ls 8 [(0, .ref (ad 80)), (2, .int (nI bn)), (3, .int (nI (k + 1))), (4, .int (nI (lowB (k + 1)))), (5, .int (if gr &&& lowB (k + 1) = 0 then b else mx b (WW gr + tb k ((k + 1) &&& (63 ^^^ gr))))), (6, .int (nI gr))] := lv_cast (l := [(0, .ref (ad 80)), (2, .int (nI bn)), (3, .int (nI (k + 1))), (4, .int (nI (lowB (k + 1)))), (5, .int b), (6, .int (nI gr))]) (lv_sub hl [0, 1, 2, 3, 4, 5] rfl) (congrArg (fun v9 : Int32 => ([(0, .ref (ad 80)), (2, .int (nI bn)), (3, .int (nI (k + 1))), (4, .int (nI (lowB (k + 1)))), (5, .int v9), (6, .int (nI gr))] : List (Nat × Value))) e9_0)
                    exact zqJ171  (by omega) _ _ _ hP hD hS hl9
                  · have c_132 := nI_le0 (a := gr &&& lowB (k + 1)) (b := 0) (by omega) (by omega) c_132
                    refine lv_aload_n hx hb dX6_tellsBest_135 rfl (lv_at hl 0 rfl) ?_
                    refine lv_iload hx hb dX6_tellsBest_136 (lv_at hl 5 rfl) ?_
                    refine q_callIW (As := [.int (nI gr)]) (r := (WW gr)) (w1 := mdW cA ad (gs (gs g 24 ch) 27 (tb k)) (zs z 4 0)) hx hb hml hown hT hK hP hD hS hA (c_X6_worth l D cA ad (gs (gs g 24 ch) 27 (tb k)) (zs z 4 0) (nI gr) (WW gr) hch2 (wmO_gs6 (hW9 gr))) k_X6_worth kl_X6_171 (q0 := 0) rfl rfl rfl ((mdW_adr _ _ _ _).trans (mdW_adr _ _ _ _).symm) hl rfl rfl (Nat.le_of_ble_eq_true rfl) ⟨⟨rfl, rfl⟩, Nat.le_of_ble_eq_true rfl, Nat.le_of_ble_eq_true rfl⟩ ⟨Nat.zero_le _, Nat.zero_le _⟩ dX6_tellsBest_138 (fun H locs hP hD hS => ?_)
                    refine lv_aload_n hx hb dX6_tellsBest_141 rfl (lv_at hl 0 rfl) ?_
                    refine q_get hx hb hT hown hK hP kw_X6 0 rfl rfl 26 (by decide) kf_X6_79 rfl (v := .ref (ad 27)) rfl dX6_tellsBest_142 ?_
                    refine lv_iload_n hx hb dX6_tellsBest_145 rfl (lv_at hl 2 rfl) ?_
                    refine lv_iload hx hb dX6_tellsBest_146 (lv_at hl 5 rfl) ?_
                    refine lv_iconst (v := (-1)) hx hb dX6_tellsBest_148 (by decide +kernel) ?_
                    refine lv_ixor hx hb dX6_tellsBest_149 ?_
                    refine lv_iand hx hb dX6_tellsBest_150 ?_
                    refine q_top (y := nI ((k + 1) &&& (63 ^^^ gr))) (q_sand _ (by omega) _ (by omega)) ?_
                    refine q_iald (f := tb k) hx hb hK hP 24 0 rfl rfl ((k + 1) &&& (63 ^^^ gr)) rfl (Nat.lt_of_le_of_lt Nat.and_le_left (by omega)) (by omega) dX6_tellsBest_151 ?_
                    refine lv_iadd hx hb dX6_tellsBest_152 ?_
                    refine lv_istore (lv' := [(7, .int ((WW gr) + (tb k ((k + 1) &&& (63 ^^^ gr))))), (0, .ref (ad 80)), (2, .int (nI bn)), (3, .int (nI (k + 1))), (4, .int (nI (lowB (k + 1)))), (5, .int b), (6, .int (nI gr))]) hx hb dX6_tellsBest_153 hl (by decide) rfl (fun ls hl => ?_)
                    refine lv_iload hx hb dX6_tellsBest_155 (lv_at hl 0 rfl) ?_
                    refine lv_iload hx hb dX6_tellsBest_157 (lv_at hl 5 rfl) ?_
                    refine lv_icmp_le (tgt := 167) hx hb dX6_tellsBest_159 (by decide) (fun c_159 => ?_) (fun c_159 => ?_)
                    · refine lv_iload hx hb dX6_tellsBest_167 (lv_at hl 5 rfl) ?_
                      refine q_top (y := mx b (WW gr + tb k ((k + 1) &&& (63 ^^^ gr)))) (by first | exact mx_t c_159 | exact mx_f c_159) ?_
                      exact zqJ169  (by omega) (by omega) _ _ _ hP hD hS (lv_sub hl [1, 2, 3, 4, 6] rfl)
                    · refine lv_iload hx hb dX6_tellsBest_162 (lv_at hl 0 rfl) ?_
                      refine lv_goto (tgt := 169) hx hb dX6_tellsBest_164 (by decide) ?_
                      refine q_top (y := mx b (WW gr + tb k ((k + 1) &&& (63 ^^^ gr)))) (by first | exact mx_t c_159 | exact mx_f c_159) ?_
                      exact zqJ169  (by omega) (by omega) _ _ _ hP hD hS (lv_sub hl [1, 2, 3, 4, 6] rfl)
            refine lv_iload_n hx hb dX6_tellsBest_102 rfl (lv_at hl 2 rfl) ?_
            refine lv_iconst (v := nI 1) hx hb dX6_tellsBest_103 (by decide +kernel) ?_
            refine lv_iload_n hx hb dX6_tellsBest_104 rfl (lv_at hl 1 rfl) ?_
            refine lv_ishl hx hb dX6_tellsBest_105 ?_
            refine q_top (y := nI N2) ((pw6 _ hb9).trans (by rw [hN2])) ?_
            refine lv_icmp_ge (tgt := 196) hx hb dX6_tellsBest_106 (by decide) (fun c_106 => ?_) (fun c_106 => ?_)
            · have c_106 := nI_le1 (a := N2) (b := k + 1) (by omega) (by omega) c_106
              refine lv_aload_n hx hb dX6_tellsBest_196 rfl (lv_at hl 0 rfl) ?_
              refine q_get hx hb hT hown hK hP kw_X6 0 rfl rfl 26 (by decide) kf_X6_79 rfl (v := .ref (ad 27)) rfl dX6_tellsBest_197 ?_
              refine lv_iconst (v := nI 1) hx hb dX6_tellsBest_200 (by decide +kernel) ?_
              refine lv_iload_n hx hb dX6_tellsBest_201 rfl (lv_at hl 1 rfl) ?_
              refine lv_ishl hx hb dX6_tellsBest_202 ?_
              refine q_top (y := nI N2) ((pw6 _ hb9).trans (by rw [hN2])) ?_
              refine lv_iconst (v := nI 1) hx hb dX6_tellsBest_203 (by decide +kernel) ?_
              refine lv_isub hx hb dX6_tellsBest_204 ?_
              refine q_top (y := nI (N2 - 1)) (pk_sub (by omega)) ?_
              refine q_iald (f := tb k) hx hb hK hP 24 0 rfl rfl (N2 - 1) rfl (by omega) (by omega) dX6_tellsBest_205 ?_
              exact q_iret hx hb hr hlk (by rw [show k = N2 - 1 by omega]) (va_cast' hP (by rw [show k = N2 - 1 by omega])) hS dX6_tellsBest_206
            · have c_106 := nI_le0 (a := N2) (b := k + 1) (by omega) (by omega) c_106
              refine lv_iload_n hx hb dX6_tellsBest_109 rfl (lv_at hl 2 rfl) ?_
              refine lv_iload_n hx hb dX6_tellsBest_110 rfl (lv_at hl 2 rfl) ?_
              refine lv_ineg hx hb dX6_tellsBest_111 ?_
              refine lv_iand hx hb dX6_tellsBest_112 ?_
              refine q_top (y := nI (lowB (k + 1))) (lowB_neg _ (by omega)) ?_
              refine lv_istore (lv' := [(4, .int (nI (lowB (k + 1)))), (0, .ref (ad 80)), (2, .int (nI bn)), (3, .int (nI (k + 1)))]) hx hb dX6_tellsBest_113 hl (by decide) rfl (fun ls hl => ?_)
              refine lv_ldc (v := (-1000000)) hx hb hown (hT.use kk_X6_170 args) dX6_tellsBest_115 ?_
              refine lv_istore (lv' := [(5, .int (-1000000)), (4, .int (nI (lowB (k + 1)))), (0, .ref (ad 80)), (2, .int (nI bn)), (3, .int (nI (k + 1)))]) hx hb dX6_tellsBest_117 hl (by decide) rfl (fun ls hl => ?_)
              refine lv_iload_n hx hb dX6_tellsBest_119 rfl (lv_at hl 4 rfl) ?_
              refine lv_istore (lv' := [(6, .int (nI (k + 1))), (5, .int (-1000000)), (4, .int (nI (lowB (k + 1)))), (0, .ref (ad 80)), (2, .int (nI bn)), (3, .int (nI (k + 1)))]) hx hb dX6_tellsBest_120 hl (by decide) rfl (fun ls hl => ?_)
              exact zqL122 (k + 3) (k + 1) (-1000000) (k + 1) (by omega) (Nat.le_refl _) (Nat.le_refl _) (by omega) rfl _ _ _ hP hD hS (lv_sub hl [3, 4, 5, 2, 1, 0] rfl)
        refine lv_aload_n hx hb dX6_tellsBest_53 rfl (lv_at hl 0 rfl) ?_
        refine lv_iload_n hx hb dX6_tellsBest_54 rfl (lv_at hl 1 rfl) ?_
        refine lv_iconst (v := nI 0) hx hb dX6_tellsBest_55 (by decide +kernel) ?_
        refine lv_iconst (v := nI 1) hx hb dX6_tellsBest_56 (by decide +kernel) ?_
        refine lv_aload_n hx hb dX6_tellsBest_57 rfl (lv_at hl 0 rfl) ?_
        refine q_get hx hb hT hown hK hP kw_X6 0 rfl rfl 0 (by decide) kf_X6_86 rfl (v := .int (nI (z 0))) rfl dX6_tellsBest_58 ?_
        refine lv_ishl hx hb dX6_tellsBest_61 ?_
        refine lv_iconst (v := nI 1) hx hb dX6_tellsBest_62 (by decide +kernel) ?_
        refine lv_isub hx hb dX6_tellsBest_63 ?_
        refine q_top (y := nI (2 ^ (z 0) - 1)) (pw16_m1 (z 0) hc) ?_
        refine q_callSI (As := [.int (nI n9), .int (nI 0), .int (nI (2 ^ (z 0) - 1))]) (r := q_b (iN (nI n9) (nI 0) (nI (2 ^ (z 0) - 1)))) hx hb hml hown hT hK hP hD hS hA (c_X6_isIn l D cA (nI n9) (nI 0) (nI (2 ^ (z 0) - 1))) k_X6_isIn kl_X6_89 hl rfl rfl (Nat.le_of_ble_eq_true rfl) ⟨⟨rfl, rfl⟩, Nat.le_of_ble_eq_true rfl, Nat.le_of_ble_eq_true rfl⟩ ⟨Nat.zero_le _, Nat.zero_le _⟩ dX6_tellsBest_64 (fun H locs hP hD hS => ?_)
        refine lv_if_eq (tgt := 76) hx hb dX6_tellsBest_67 (by decide) (fun c_67 => ?_) (fun c_67 => ?_)
        · have c_67 := q_b0e c_67
          exact absurd c_67 (by rw [iN_t (iN_pw hn9 hc)]; decide)
        · have c_67 := q_b0n c_67
          refine lv_iload_n hx hb dX6_tellsBest_70 rfl (lv_at hl 2 rfl) ?_
          refine lv_bipush (v := nI 6) hx hb dX6_tellsBest_71 (by decide +kernel) ?_
          refine lv_icmp_le (tgt := 80) hx hb dX6_tellsBest_73 (by decide) (fun c_73 => ?_) (fun c_73 => ?_)
          · have c_73 := nI_le1 (a := bn) (b := 6) (by omega) (by omega) c_73
            refine lv_iconst (v := nI 0) hx hb dX6_tellsBest_80 (by decide +kernel) ?_
            refine q_put (ty := .int) (ws1 := mdW cA ad (gs g 24 ch) (zs z 4 0)) hx hb hT hown hK hP hD hS kw_X6 tyX6_ok nmX6 0 rfl rfl 27 (by decide) kf_X6_82 rfl rfl (by decide +kernel) rfl rfl (Nat.le_of_ble_eq_true rfl) rfl dX6_tellsBest_81 (fun H locs hP hD hS => ?_)
            refine lv_aload_n hx hb dX6_tellsBest_84 rfl (lv_at hl 0 rfl) ?_
            refine q_get hx hb hT hown hK hP kw_X6 0 rfl rfl 27 (by decide) kf_X6_82 rfl (v := .int (nI 0)) rfl dX6_tellsBest_85 ?_
            refine lv_if_le (tgt := 93) hx hb dX6_tellsBest_88 (by decide) (fun c_88 => ?_) (fun c_88 => ?_)
            · have c_88 := nI_le1 (a := 0) (b := 0) (by omega) (by omega) c_88
              refine lv_aload_n hx hb dX6_tellsBest_93 rfl (lv_at hl 0 rfl) ?_
              refine q_get hx hb hT hown hK hP kw_X6 0 rfl rfl 26 (by decide) kf_X6_79 rfl (v := .ref (ad 27)) rfl dX6_tellsBest_94 ?_
              refine lv_iconst (v := nI 0) hx hb dX6_tellsBest_97 (by decide +kernel) ?_
              refine lv_iconst (v := nI 0) hx hb dX6_tellsBest_98 (by decide +kernel) ?_
              refine q_iast (f := g 27) (ws1 := mdW cA ad (gs (gs g 24 ch) 27 (upd (g 27) 0 (nI 0))) (zs z 4 0)) hx hb hK hP hD hS 24 0 rfl rfl (0) rfl (by omega) (by omega) rfl dX6_tellsBest_99 (fun H locs hP hD hS => ?_)
              refine lv_iconst (v := nI 1) hx hb dX6_tellsBest_100 (by decide +kernel) ?_
              refine lv_istore_n (lv' := [(3, .int (nI 1)), (0, .ref (ad 80)), (1, .int (nI n9)), (2, .int (nI bn))]) hx hb dX6_tellsBest_101 rfl hl (by decide) rfl (fun ls hl => ?_)
              have e9_0 : (nI 1) = (nI (0 + 1)) := by first | with_reducible rfl | (rfl)
              have hl9 : lv_has ls 8 [(0, .ref (ad 80)), (2, .int (nI bn)), (3, .int (nI (0 + 1)))] := lv_cast (l := [(0, .ref (ad 80)), (2, .int (nI bn)), (3, .int (nI 1))]) (lv_sub hl [1, 3, 0] rfl) (congrArg (fun v9 : Int32 => ([(0, .ref (ad 80)), (2, .int (nI bn)), (3, .int v9)] : List (Nat × Value))) e9_0)
              have ew9 : (mdW cA ad (gs (gs g 24 ch) 27 (upd (g 27) 0 (nI 0))) (zs z 4 0)) = (mdW cA ad (gs (gs g 24 ch) 27 (tb 0)) (zs z 4 0)) := by first | with_reducible rfl | (first | rw [ht0] | rw [← hts k, ← hre, show gr = 0 by omega, gbI_0])
              have hP : va_P D vwCl (mdW cA ad (gs (gs g 24 ch) 27 (tb 0)) (zs z 4 0)) H := va_cast' hP ew9
              have hD : va_D A (mdW cA ad (gs (gs g 24 ch) 27 (tb 0)) (zs z 4 0)) := va_castD hD ew9
              exact zqL102 (N2 + 1) 0 (by omega) (by omega) _ _ _ hP hD hS hl9
            · have c_88 := nI_le0 (a := 0) (b := 0) (by omega) (by omega) c_88
              exfalso; omega
          · have c_73 := nI_le0 (a := bn) (b := 6) (by omega) (by omega) c_73
            exfalso; omega
      have zqJ45 : (k < 16) → ∀ (H : Heap) (locs : List Loc) (ls : Array Slot), va_P D vwCl (mdW cA ad (gs g 24 (choM (nI n9) (g 24) (k + 1))) z) H → va_D A (mdW cA ad (gs g 24 (choM (nI n9) (g 24) (k + 1))) z) → va_S A s.heap H locs → lv_has ls 8 [(0, .ref (ad 80)), (1, .int (nI n9)), (3, .int (nI k))] → W p l e rm_X6_tellsBest s m args below meth c H locs 0 0 (q_GI D (tb (N2 - 1) (N2 - 1)) (mdW cA ad (gs (gs g 24 ch) 27 (tb (N2 - 1))) (zs z 4 0)) A below args s) (F0 m 45 ls [.int (q_b (hasB (nI n9) (nI k))), .int (nI (bitC (nI n9) k))]) := by
        intro  hk9 H locs ls hP hD hS hl
        refine lv_iadd hx hb dX6_tellsBest_45 ?_
        refine q_top (y := nI (bitC (nI n9) (k + 1))) (bitC_addb) ?_
        refine lv_istore_n (lv' := [(2, .int (nI (bitC (nI n9) (k + 1)))), (0, .ref (ad 80)), (1, .int (nI n9)), (3, .int (nI k))]) hx hb dX6_tellsBest_46 rfl hl (by decide) rfl (fun ls hl => ?_)
        refine lv_iinc (v := nI (k + 1)) (lv' := [(3, .int (nI (k + 1))), (2, .int (nI (bitC (nI n9) (k + 1)))), (0, .ref (ad 80)), (1, .int (nI n9))]) hx hb dX6_tellsBest_47 hl (k := 3) rfl (q_inc1 _) (by decide) rfl (fun ls hl => ?_)
        refine lv_goto (tgt := 4) hx hb dX6_tellsBest_50 (by decide) ?_
        exact ih4 (k + 1) (by omega) (by omega) _ _ _ hP hD hS (lv_sub hl [2, 3, 1, 0] rfl)
      have zqJ31 : (k < 16) → ∀ (H : Heap) (locs : List Loc) (ls : Array Slot), va_P D vwCl (mdW cA ad (gs g 24 (choM (nI n9) (g 24) (k + 1))) z) H → va_D A (mdW cA ad (gs g 24 (choM (nI n9) (g 24) (k + 1))) z) → va_S A s.heap H locs → lv_has ls 8 [(0, .ref (ad 80)), (1, .int (nI n9)), (2, .int (nI (bitC (nI n9) k))), (3, .int (nI k))] → W p l e rm_X6_tellsBest s m args below meth c H locs 0 0 (q_GI D (tb (N2 - 1) (N2 - 1)) (mdW cA ad (gs (gs g 24 ch) 27 (tb (N2 - 1))) (zs z 4 0)) A below args s) (F0 m 31 ls []) := by
        intro  hk9 H locs ls hP hD hS hl
        refine lv_iload_n hx hb dX6_tellsBest_31 rfl (lv_at hl 2 rfl) ?_
        refine lv_iload_n hx hb dX6_tellsBest_32 rfl (lv_at hl 1 rfl) ?_
        refine lv_iload_n hx hb dX6_tellsBest_33 rfl (lv_at hl 3 rfl) ?_
        refine q_callSI (As := [.int (nI n9), .int (nI k)]) (r := q_b (hasB (nI n9) (nI k))) hx hb hml hown hT hK hP hD hS hA (c_X6_has l D cA (nI n9) (nI k)) k_X6_has kl_X6_104 hl rfl rfl (Nat.le_of_ble_eq_true rfl) ⟨⟨rfl, rfl⟩, Nat.le_of_ble_eq_true rfl, Nat.le_of_ble_eq_true rfl⟩ ⟨Nat.zero_le _, Nat.zero_le _⟩ dX6_tellsBest_34 (fun H locs hP hD hS => ?_)
        refine lv_if_eq (tgt := 44) hx hb dX6_tellsBest_37 (by decide) (fun c_37 => ?_) (fun c_37 => ?_)
        · have c_37 := q_b0e c_37
          refine lv_iconst (v := nI 0) hx hb dX6_tellsBest_44 (by decide +kernel) ?_
          refine q_top (y := q_b (hasB (nI n9) (nI k))) (by first | exact q_bt c_37 | exact q_bf c_37) ?_
          exact zqJ45  (by omega) _ _ _ hP hD hS (lv_sub hl [0, 1, 3] rfl)
        · have c_37 := q_b0n c_37
          refine lv_iconst (v := nI 1) hx hb dX6_tellsBest_40 (by decide +kernel) ?_
          refine lv_goto (tgt := 45) hx hb dX6_tellsBest_41 (by decide) ?_
          refine q_top (y := q_b (hasB (nI n9) (nI k))) (by first | exact q_bt c_37 | exact q_bf c_37) ?_
          exact zqJ45  (by omega) _ _ _ hP hD hS (lv_sub hl [0, 1, 3] rfl)
      refine lv_iload_n hx hb dX6_tellsBest_4 rfl (lv_at hl 3 rfl) ?_
      refine lv_bipush (v := nI 16) hx hb dX6_tellsBest_5 (by decide +kernel) ?_
      refine lv_icmp_ge (tgt := 53) hx hb dX6_tellsBest_7 (by decide) (fun c_7 => ?_) (fun c_7 => ?_)
      · have c_7 := nI_le1 (a := 16) (b := k) (by omega) (by omega) c_7
        have e9_0 : (nI (bitC (nI n9) k)) = (nI bn) := by first | with_reducible rfl | (rw [show k = 16 by omega, hbn])
        have hl9 : lv_has ls 8 [(0, .ref (ad 80)), (1, .int (nI n9)), (2, .int (nI bn))] := lv_cast (l := [(0, .ref (ad 80)), (1, .int (nI n9)), (2, .int (nI (bitC (nI n9) k)))]) (lv_sub hl [0, 1, 2] rfl) (congrArg (fun v9 : Int32 => ([(0, .ref (ad 80)), (1, .int (nI n9)), (2, .int v9)] : List (Nat × Value))) e9_0)
        have ew9 : (mdW cA ad (gs g 24 (choM (nI n9) (g 24) k)) z) = (mdW cA ad (gs g 24 ch) z) := by first | with_reducible rfl | (rw [show k = 16 by omega, hch9])
        have hP : va_P D vwCl (mdW cA ad (gs g 24 ch) z) H := va_cast' hP ew9
        have hD : va_D A (mdW cA ad (gs g 24 ch) z) := va_castD hD ew9
        exact zqJ53   _ _ _ hP hD hS hl9
      · have c_7 := nI_le0 (a := 16) (b := k) (by omega) (by omega) c_7
        refine lv_iload_n hx hb dX6_tellsBest_10 rfl (lv_at hl 1 rfl) ?_
        refine lv_iload_n hx hb dX6_tellsBest_11 rfl (lv_at hl 3 rfl) ?_
        refine q_callSI (As := [.int (nI n9), .int (nI k)]) (r := q_b (hasB (nI n9) (nI k))) hx hb hml hown hT hK hP hD hS hA (c_X6_has l D cA (nI n9) (nI k)) k_X6_has kl_X6_104 hl rfl rfl (Nat.le_of_ble_eq_true rfl) ⟨⟨rfl, rfl⟩, Nat.le_of_ble_eq_true rfl, Nat.le_of_ble_eq_true rfl⟩ ⟨Nat.zero_le _, Nat.zero_le _⟩ dX6_tellsBest_12 (fun H locs hP hD hS => ?_)
        refine lv_if_eq (tgt := 31) hx hb dX6_tellsBest_15 (by decide) (fun c_15 => ?_) (fun c_15 => ?_)
        · have c_15 := q_b0e c_15
          have ew9 : (mdW cA ad (gs g 24 (choM (nI n9) (g 24) k)) z) = (mdW cA ad (gs g 24 (choM (nI n9) (g 24) (k + 1))) z) := by first | with_reducible rfl | (first | rw [choM_t c_15 (by omega)] | rw [choM_f (fun h => Bool.false_ne_true (c_15.symm.trans h.1))] | rw [choM_f (fun h => absurd h.2 (by omega))])
          have hP : va_P D vwCl (mdW cA ad (gs g 24 (choM (nI n9) (g 24) (k + 1))) z) H := va_cast' hP ew9
          have hD : va_D A (mdW cA ad (gs g 24 (choM (nI n9) (g 24) (k + 1))) z) := va_castD hD ew9
          exact zqJ31  (by omega) _ _ _ hP hD hS (lv_sub hl [0, 1, 2, 3] rfl)
        · have c_15 := q_b0n c_15
          refine lv_iload_n hx hb dX6_tellsBest_18 rfl (lv_at hl 2 rfl) ?_
          refine lv_bipush (v := nI 6) hx hb dX6_tellsBest_19 (by decide +kernel) ?_
          refine lv_icmp_ge (tgt := 31) hx hb dX6_tellsBest_21 (by decide) (fun c_21 => ?_) (fun c_21 => ?_)
          · have c_21 := nI_le1 (a := 6) (b := bitC (nI n9) k) (by omega) (by omega) c_21
            have ew9 : (mdW cA ad (gs g 24 (choM (nI n9) (g 24) k)) z) = (mdW cA ad (gs g 24 (choM (nI n9) (g 24) (k + 1))) z) := by first | with_reducible rfl | (first | rw [choM_t c_15 (by omega)] | rw [choM_f (fun h => Bool.false_ne_true (c_15.symm.trans h.1))] | rw [choM_f (fun h => absurd h.2 (by omega))])
            have hP : va_P D vwCl (mdW cA ad (gs g 24 (choM (nI n9) (g 24) (k + 1))) z) H := va_cast' hP ew9
            have hD : va_D A (mdW cA ad (gs g 24 (choM (nI n9) (g 24) (k + 1))) z) := va_castD hD ew9
            exact zqJ31  (by omega) _ _ _ hP hD hS (lv_sub hl [0, 1, 2, 3] rfl)
          · have c_21 := nI_le0 (a := 6) (b := bitC (nI n9) k) (by omega) (by omega) c_21
            refine lv_aload_n hx hb dX6_tellsBest_24 rfl (lv_at hl 0 rfl) ?_
            refine q_get hx hb hT hown hK hP kw_X6 0 rfl rfl 25 (by decide) kf_X6_76 rfl (v := .ref (ad 24)) rfl dX6_tellsBest_25 ?_
            refine lv_iload_n hx hb dX6_tellsBest_28 rfl (lv_at hl 2 rfl) ?_
            refine lv_iload_n hx hb dX6_tellsBest_29 rfl (lv_at hl 3 rfl) ?_
            refine q_iast (f := choM (nI n9) (g 24) k) (ws1 := mdW cA ad (gs g 24 (upd (choM (nI n9) (g 24) k) (bitC (nI n9) k) (nI k))) z) hx hb hK hP hD hS 23 0 rfl rfl (bitC (nI n9) k) rfl (by omega) (by omega) rfl dX6_tellsBest_30 (fun H locs hP hD hS => ?_)
            have ew9 : (mdW cA ad (gs g 24 (upd (choM (nI n9) (g 24) k) (bitC (nI n9) k) (nI k))) z) = (mdW cA ad (gs g 24 (choM (nI n9) (g 24) (k + 1))) z) := by first | with_reducible rfl | (first | rw [choM_t c_15 (by omega)] | rw [choM_f (fun h => Bool.false_ne_true (c_15.symm.trans h.1))] | rw [choM_f (fun h => absurd h.2 (by omega))])
            have hP : va_P D vwCl (mdW cA ad (gs g 24 (choM (nI n9) (g 24) (k + 1))) z) H := va_cast' hP ew9
            have hD : va_D A (mdW cA ad (gs g 24 (choM (nI n9) (g 24) (k + 1))) z) := va_castD hD ew9
            exact zqJ31  (by omega) _ _ _ hP hD hS (lv_sub hl [0, 1, 2, 3] rfl)
  refine lv_iconst (v := nI 0) hx hb dX6_tellsBest_0 (by decide +kernel) ?_
  refine lv_istore_n (lv' := [(2, .int (nI 0)), (0, .ref (ad 80)), (1, .int (nI n9))]) hx hb dX6_tellsBest_1 rfl hl (by decide) rfl (fun ls hl => ?_)
  refine lv_iconst (v := nI 0) hx hb dX6_tellsBest_2 (by decide +kernel) ?_
  refine lv_istore_n (lv' := [(3, .int (nI 0)), (2, .int (nI 0)), (0, .ref (ad 80)), (1, .int (nI n9))]) hx hb dX6_tellsBest_3 rfl hl (by decide) rfl (fun ls hl => ?_)
  have e9_0 : (nI 0) = (nI (bitC (nI n9) 0)) := by first | with_reducible rfl | (rfl)
  have hl9 : lv_has ls 8 [(0, .ref (ad 80)), (1, .int (nI n9)), (2, .int (nI (bitC (nI n9) 0))), (3, .int (nI 0))] := lv_cast (l := [(0, .ref (ad 80)), (1, .int (nI n9)), (2, .int (nI 0)), (3, .int (nI 0))]) (lv_sub hl [2, 3, 1, 0] rfl) (congrArg (fun v9 : Int32 => ([(0, .ref (ad 80)), (1, .int (nI n9)), (2, .int v9), (3, .int (nI 0))] : List (Nat × Value))) e9_0)
  have ew9 : (mdW cA ad g z) = (mdW cA ad (gs g 24 (choM (nI n9) (g 24) 0)) z) := by first | with_reducible rfl | (rw [choM_0]; rfl)
  have hP : va_P D vwCl (mdW cA ad (gs g 24 (choM (nI n9) (g 24) 0)) z) H := va_cast' hP ew9
  have hD : va_D A (mdW cA ad (gs g 24 (choM (nI n9) (g 24) 0)) z) := va_castD hD ew9
  exact zqL4 (17) 0 (by omega) (by omega) _ _ _ hP hD hS hl9
abbrev rm_X6_tellsBestx : Room := { frames := 1, cells := 0, slots := 0, locals := 22 }
set_option maxRecDepth 100000 in
set_option maxHeartbeats 4000000 in
theorem c_X6_tellsBestx (l : Launch) (D : va_G) (cA : ClassId) (ad : Nat → Nat) (g : Nat → Nat → Int32) (z : Nat → Nat) (w : Int32) (hc : (z 0) ≤ 16) (hx9 : ¬ ((¬ w < nI 0 ∧ w ≤ nI (2 ^ (z 0) - 1)) ∧ bitC w 16 ≤ 6)) : q_CI l yX6_tellsBest [Cond.code yX6_tellsBest cX6_tellsBest 8 (some .int)] rm_X6_tellsBestx D cA [.ref (ad 80), .int w] (mdW cA ad g z) (nI 0) (mdW cA ad (gs g 24 (choM w (g 24) 16)) (zs z 4 1)) := by
  refine q_startI RX6 (by decide +kernel) rfl (Nat.le_of_ble_eq_true rfl) ?_
  intro p e s m below meth c A args H locs ls hx hb hr hml hown hT hlk hP hK hD hA hS hl
  have hl : lv_has ls 8 [(0, .ref (ad 80)), (1, .int w)] := hl
  have hb16 := bitC_le w 16
  have zqL4 : ∀ (fu : Nat), ∀ (k : Nat), (17 ≤ k + fu) → (k ≤ 16) → ∀ (H : Heap) (locs : List Loc) (ls : Array Slot), va_P D vwCl (mdW cA ad (gs g 24 (choM w (g 24) k)) z) H → va_D A (mdW cA ad (gs g 24 (choM w (g 24) k)) z) → va_S A s.heap H locs → lv_has ls 8 [(0, .ref (ad 80)), (1, .int w), (2, .int (nI (bitC w k))), (3, .int (nI k))] → W p l e rm_X6_tellsBestx s m args below meth c H locs 0 0 (q_GI D (nI 0) (mdW cA ad (gs g 24 (choM w (g 24) 16)) (zs z 4 1)) A below args s) (F0 m 4 ls []) := by
    intro fu
    induction fu with
    | zero =>
      intro k hfu hk H locs ls hP hD hS hl
      exfalso; omega
    | succ fu ih4 =>
      intro k hfu hk H locs ls hP hD hS hl
      have hbl := bitC_le w k
      have zqJ53 : ∀ (H : Heap) (locs : List Loc) (ls : Array Slot), va_P D vwCl (mdW cA ad (gs g 24 (choM w (g 24) 16)) z) H → va_D A (mdW cA ad (gs g 24 (choM w (g 24) 16)) z) → va_S A s.heap H locs → lv_has ls 8 [(0, .ref (ad 80)), (1, .int w), (2, .int (nI (bitC w 16)))] → W p l e rm_X6_tellsBestx s m args below meth c H locs 0 0 (q_GI D (nI 0) (mdW cA ad (gs g 24 (choM w (g 24) 16)) (zs z 4 1)) A below args s) (F0 m 53 ls []) := by
        intro   H locs ls hP hD hS hl
        refine lv_aload_n hx hb dX6_tellsBest_53 rfl (lv_at hl 0 rfl) ?_
        refine lv_iload_n hx hb dX6_tellsBest_54 rfl (lv_at hl 1 rfl) ?_
        refine lv_iconst (v := nI 0) hx hb dX6_tellsBest_55 (by decide +kernel) ?_
        refine lv_iconst (v := nI 1) hx hb dX6_tellsBest_56 (by decide +kernel) ?_
        refine lv_aload_n hx hb dX6_tellsBest_57 rfl (lv_at hl 0 rfl) ?_
        refine q_get hx hb hT hown hK hP kw_X6 0 rfl rfl 0 (by decide) kf_X6_86 rfl (v := .int (nI (z 0))) rfl dX6_tellsBest_58 ?_
        refine lv_ishl hx hb dX6_tellsBest_61 ?_
        refine lv_iconst (v := nI 1) hx hb dX6_tellsBest_62 (by decide +kernel) ?_
        refine lv_isub hx hb dX6_tellsBest_63 ?_
        refine q_top (y := nI (2 ^ (z 0) - 1)) (pw16_m1 (z 0) hc) ?_
        refine q_callSI (As := [.int w, .int (nI 0), .int (nI (2 ^ (z 0) - 1))]) (r := q_b (iN w (nI 0) (nI (2 ^ (z 0) - 1)))) hx hb hml hown hT hK hP hD hS hA (c_X6_isIn l D cA w (nI 0) (nI (2 ^ (z 0) - 1))) k_X6_isIn kl_X6_89 hl rfl rfl (Nat.le_of_ble_eq_true rfl) ⟨⟨rfl, rfl⟩, Nat.le_of_ble_eq_true rfl, Nat.le_of_ble_eq_true rfl⟩ ⟨Nat.zero_le _, Nat.zero_le _⟩ dX6_tellsBest_64 (fun H locs hP hD hS => ?_)
        refine lv_if_eq (tgt := 76) hx hb dX6_tellsBest_67 (by decide) (fun c_67 => ?_) (fun c_67 => ?_)
        · have c_67 := q_b0e c_67
          refine lv_iconst (v := nI 1) hx hb dX6_tellsBest_76 (by decide +kernel) ?_
          refine lv_goto (tgt := 81) hx hb dX6_tellsBest_77 (by decide) ?_
          refine q_put (ty := .int) (ws1 := mdW cA ad (gs g 24 (choM w (g 24) 16)) (zs z 4 1)) hx hb hT hown hK hP hD hS kw_X6 tyX6_ok nmX6 0 rfl rfl 27 (by decide) kf_X6_82 rfl rfl (by decide +kernel) rfl rfl (Nat.le_of_ble_eq_true rfl) rfl dX6_tellsBest_81 (fun H locs hP hD hS => ?_)
          refine lv_aload_n hx hb dX6_tellsBest_84 rfl (lv_at hl 0 rfl) ?_
          refine q_get hx hb hT hown hK hP kw_X6 0 rfl rfl 27 (by decide) kf_X6_82 rfl (v := .int (nI 1)) rfl dX6_tellsBest_85 ?_
          refine lv_if_le (tgt := 93) hx hb dX6_tellsBest_88 (by decide) (fun c_88 => ?_) (fun c_88 => ?_)
          · have c_88 := nI_le1 (a := 1) (b := 0) (by omega) (by omega) c_88
            exfalso; omega
          · have c_88 := nI_le0 (a := 1) (b := 0) (by omega) (by omega) c_88
            refine lv_iconst (v := nI 0) hx hb dX6_tellsBest_91 (by decide +kernel) ?_
            exact q_iret hx hb hr hlk (by rfl) hP hS dX6_tellsBest_92
        · have c_67 := q_b0n c_67
          refine lv_iload_n hx hb dX6_tellsBest_70 rfl (lv_at hl 2 rfl) ?_
          refine lv_bipush (v := nI 6) hx hb dX6_tellsBest_71 (by decide +kernel) ?_
          refine lv_icmp_le (tgt := 80) hx hb dX6_tellsBest_73 (by decide) (fun c_73 => ?_) (fun c_73 => ?_)
          · have c_73 := nI_le1 (a := bitC w 16) (b := 6) (by omega) (by omega) c_73
            exact absurd ⟨iN_e c_67, c_73⟩ hx9
          · have c_73 := nI_le0 (a := bitC w 16) (b := 6) (by omega) (by omega) c_73
            refine lv_iconst (v := nI 1) hx hb dX6_tellsBest_76 (by decide +kernel) ?_
            refine lv_goto (tgt := 81) hx hb dX6_tellsBest_77 (by decide) ?_
            refine q_put (ty := .int) (ws1 := mdW cA ad (gs g 24 (choM w (g 24) 16)) (zs z 4 1)) hx hb hT hown hK hP hD hS kw_X6 tyX6_ok nmX6 0 rfl rfl 27 (by decide) kf_X6_82 rfl rfl (by decide +kernel) rfl rfl (Nat.le_of_ble_eq_true rfl) rfl dX6_tellsBest_81 (fun H locs hP hD hS => ?_)
            refine lv_aload_n hx hb dX6_tellsBest_84 rfl (lv_at hl 0 rfl) ?_
            refine q_get hx hb hT hown hK hP kw_X6 0 rfl rfl 27 (by decide) kf_X6_82 rfl (v := .int (nI 1)) rfl dX6_tellsBest_85 ?_
            refine lv_if_le (tgt := 93) hx hb dX6_tellsBest_88 (by decide) (fun c_88 => ?_) (fun c_88 => ?_)
            · have c_88 := nI_le1 (a := 1) (b := 0) (by omega) (by omega) c_88
              exfalso; omega
            · have c_88 := nI_le0 (a := 1) (b := 0) (by omega) (by omega) c_88
              refine lv_iconst (v := nI 0) hx hb dX6_tellsBest_91 (by decide +kernel) ?_
              exact q_iret hx hb hr hlk (by rfl) hP hS dX6_tellsBest_92
      have zqJ45 : (k < 16) → ∀ (H : Heap) (locs : List Loc) (ls : Array Slot), va_P D vwCl (mdW cA ad (gs g 24 (choM w (g 24) (k + 1))) z) H → va_D A (mdW cA ad (gs g 24 (choM w (g 24) (k + 1))) z) → va_S A s.heap H locs → lv_has ls 8 [(0, .ref (ad 80)), (1, .int w), (3, .int (nI k))] → W p l e rm_X6_tellsBestx s m args below meth c H locs 0 0 (q_GI D (nI 0) (mdW cA ad (gs g 24 (choM w (g 24) 16)) (zs z 4 1)) A below args s) (F0 m 45 ls [.int (q_b (hasB w (nI k))), .int (nI (bitC w k))]) := by
        intro  hk9 H locs ls hP hD hS hl
        refine lv_iadd hx hb dX6_tellsBest_45 ?_
        refine q_top (y := nI (bitC w (k + 1))) (bitC_addb) ?_
        refine lv_istore_n (lv' := [(2, .int (nI (bitC w (k + 1)))), (0, .ref (ad 80)), (1, .int w), (3, .int (nI k))]) hx hb dX6_tellsBest_46 rfl hl (by decide) rfl (fun ls hl => ?_)
        refine lv_iinc (v := nI (k + 1)) (lv' := [(3, .int (nI (k + 1))), (2, .int (nI (bitC w (k + 1)))), (0, .ref (ad 80)), (1, .int w)]) hx hb dX6_tellsBest_47 hl (k := 3) rfl (q_inc1 _) (by decide) rfl (fun ls hl => ?_)
        refine lv_goto (tgt := 4) hx hb dX6_tellsBest_50 (by decide) ?_
        exact ih4 (k + 1) (by omega) (by omega) _ _ _ hP hD hS (lv_sub hl [2, 3, 1, 0] rfl)
      have zqJ31 : (k < 16) → ∀ (H : Heap) (locs : List Loc) (ls : Array Slot), va_P D vwCl (mdW cA ad (gs g 24 (choM w (g 24) (k + 1))) z) H → va_D A (mdW cA ad (gs g 24 (choM w (g 24) (k + 1))) z) → va_S A s.heap H locs → lv_has ls 8 [(0, .ref (ad 80)), (1, .int w), (2, .int (nI (bitC w k))), (3, .int (nI k))] → W p l e rm_X6_tellsBestx s m args below meth c H locs 0 0 (q_GI D (nI 0) (mdW cA ad (gs g 24 (choM w (g 24) 16)) (zs z 4 1)) A below args s) (F0 m 31 ls []) := by
        intro  hk9 H locs ls hP hD hS hl
        refine lv_iload_n hx hb dX6_tellsBest_31 rfl (lv_at hl 2 rfl) ?_
        refine lv_iload_n hx hb dX6_tellsBest_32 rfl (lv_at hl 1 rfl) ?_
        refine lv_iload_n hx hb dX6_tellsBest_33 rfl (lv_at hl 3 rfl) ?_
        refine q_callSI (As := [.int w, .int (nI k)]) (r := q_b (hasB w (nI k))) hx hb hml hown hT hK hP hD hS hA (c_X6_has l D cA w (nI k)) k_X6_has kl_X6_104 hl rfl rfl (Nat.le_of_ble_eq_true rfl) ⟨⟨rfl, rfl⟩, Nat.le_of_ble_eq_true rfl, Nat.le_of_ble_eq_true rfl⟩ ⟨Nat.zero_le _, Nat.zero_le _⟩ dX6_tellsBest_34 (fun H locs hP hD hS => ?_)
        refine lv_if_eq (tgt := 44) hx hb dX6_tellsBest_37 (by decide) (fun c_37 => ?_) (fun c_37 => ?_)
        · have c_37 := q_b0e c_37
          refine lv_iconst (v := nI 0) hx hb dX6_tellsBest_44 (by decide +kernel) ?_
          refine q_top (y := q_b (hasB w (nI k))) (by first | exact q_bt c_37 | exact q_bf c_37) ?_
          exact zqJ45  (by omega) _ _ _ hP hD hS (lv_sub hl [0, 1, 3] rfl)
        · have c_37 := q_b0n c_37
          refine lv_iconst (v := nI 1) hx hb dX6_tellsBest_40 (by decide +kernel) ?_
          refine lv_goto (tgt := 45) hx hb dX6_tellsBest_41 (by decide) ?_
          refine q_top (y := q_b (hasB w (nI k))) (by first | exact q_bt c_37 | exact q_bf c_37) ?_
          exact zqJ45  (by omega) _ _ _ hP hD hS (lv_sub hl [0, 1, 3] rfl)
      refine lv_iload_n hx hb dX6_tellsBest_4 rfl (lv_at hl 3 rfl) ?_
      refine lv_bipush (v := nI 16) hx hb dX6_tellsBest_5 (by decide +kernel) ?_
      refine lv_icmp_ge (tgt := 53) hx hb dX6_tellsBest_7 (by decide) (fun c_7 => ?_) (fun c_7 => ?_)
      · have c_7 := nI_le1 (a := 16) (b := k) (by omega) (by omega) c_7
        have e9_0 : (nI (bitC w k)) = (nI (bitC w 16)) := by first | with_reducible rfl | (rw [show k = 16 by omega])
        have hl9 : lv_has ls 8 [(0, .ref (ad 80)), (1, .int w), (2, .int (nI (bitC w 16)))] := lv_cast (l := [(0, .ref (ad 80)), (1, .int w), (2, .int (nI (bitC w k)))]) (lv_sub hl [0, 1, 2] rfl) (congrArg (fun v9 : Int32 => ([(0, .ref (ad 80)), (1, .int w), (2, .int v9)] : List (Nat × Value))) e9_0)
        have ew9 : (mdW cA ad (gs g 24 (choM w (g 24) k)) z) = (mdW cA ad (gs g 24 (choM w (g 24) 16)) z) := by first | with_reducible rfl | (rw [show k = 16 by omega])
        have hP : va_P D vwCl (mdW cA ad (gs g 24 (choM w (g 24) 16)) z) H := va_cast' hP ew9
        have hD : va_D A (mdW cA ad (gs g 24 (choM w (g 24) 16)) z) := va_castD hD ew9
        exact zqJ53   _ _ _ hP hD hS hl9
      · have c_7 := nI_le0 (a := 16) (b := k) (by omega) (by omega) c_7
        refine lv_iload_n hx hb dX6_tellsBest_10 rfl (lv_at hl 1 rfl) ?_
        refine lv_iload_n hx hb dX6_tellsBest_11 rfl (lv_at hl 3 rfl) ?_
        refine q_callSI (As := [.int w, .int (nI k)]) (r := q_b (hasB w (nI k))) hx hb hml hown hT hK hP hD hS hA (c_X6_has l D cA w (nI k)) k_X6_has kl_X6_104 hl rfl rfl (Nat.le_of_ble_eq_true rfl) ⟨⟨rfl, rfl⟩, Nat.le_of_ble_eq_true rfl, Nat.le_of_ble_eq_true rfl⟩ ⟨Nat.zero_le _, Nat.zero_le _⟩ dX6_tellsBest_12 (fun H locs hP hD hS => ?_)
        refine lv_if_eq (tgt := 31) hx hb dX6_tellsBest_15 (by decide) (fun c_15 => ?_) (fun c_15 => ?_)
        · have c_15 := q_b0e c_15
          have ew9 : (mdW cA ad (gs g 24 (choM w (g 24) k)) z) = (mdW cA ad (gs g 24 (choM w (g 24) (k + 1))) z) := by first | with_reducible rfl | (first | rw [choM_t c_15 (by omega)] | rw [choM_f (fun h => Bool.false_ne_true (c_15.symm.trans h.1))] | rw [choM_f (fun h => absurd h.2 (by omega))])
          have hP : va_P D vwCl (mdW cA ad (gs g 24 (choM w (g 24) (k + 1))) z) H := va_cast' hP ew9
          have hD : va_D A (mdW cA ad (gs g 24 (choM w (g 24) (k + 1))) z) := va_castD hD ew9
          exact zqJ31  (by omega) _ _ _ hP hD hS (lv_sub hl [0, 1, 2, 3] rfl)
        · have c_15 := q_b0n c_15
          refine lv_iload_n hx hb dX6_tellsBest_18 rfl (lv_at hl 2 rfl) ?_
          refine lv_bipush (v := nI 6) hx hb dX6_tellsBest_19 (by decide +kernel) ?_
          refine lv_icmp_ge (tgt := 31) hx hb dX6_tellsBest_21 (by decide) (fun c_21 => ?_) (fun c_21 => ?_)
          · have c_21 := nI_le1 (a := 6) (b := bitC w k) (by omega) (by omega) c_21
            have ew9 : (mdW cA ad (gs g 24 (choM w (g 24) k)) z) = (mdW cA ad (gs g 24 (choM w (g 24) (k + 1))) z) := by first | with_reducible rfl | (first | rw [choM_t c_15 (by omega)] | rw [choM_f (fun h => Bool.false_ne_true (c_15.symm.trans h.1))] | rw [choM_f (fun h => absurd h.2 (by omega))])
            have hP : va_P D vwCl (mdW cA ad (gs g 24 (choM w (g 24) (k + 1))) z) H := va_cast' hP ew9
            have hD : va_D A (mdW cA ad (gs g 24 (choM w (g 24) (k + 1))) z) := va_castD hD ew9
            exact zqJ31  (by omega) _ _ _ hP hD hS (lv_sub hl [0, 1, 2, 3] rfl)
          · have c_21 := nI_le0 (a := 6) (b := bitC w k) (by omega) (by omega) c_21
            refine lv_aload_n hx hb dX6_tellsBest_24 rfl (lv_at hl 0 rfl) ?_
            refine q_get hx hb hT hown hK hP kw_X6 0 rfl rfl 25 (by decide) kf_X6_76 rfl (v := .ref (ad 24)) rfl dX6_tellsBest_25 ?_
            refine lv_iload_n hx hb dX6_tellsBest_28 rfl (lv_at hl 2 rfl) ?_
            refine lv_iload_n hx hb dX6_tellsBest_29 rfl (lv_at hl 3 rfl) ?_
            refine q_iast (f := choM w (g 24) k) (ws1 := mdW cA ad (gs g 24 (upd (choM w (g 24) k) (bitC w k) (nI k))) z) hx hb hK hP hD hS 23 0 rfl rfl (bitC w k) rfl (by omega) (by omega) rfl dX6_tellsBest_30 (fun H locs hP hD hS => ?_)
            obtain ⟨nF30_24, enF30_24⟩ : ∃ y : Nat → Int32, y = upd (choM w (g 24) k) (bitC w k) (nI k) := ⟨_, rfl⟩
            have hP : va_P D vwCl (mdW cA ad (gs g 24 nF30_24) z) H := by rw [enF30_24]; exact hP
            have hD : va_D A (mdW cA ad (gs g 24 nF30_24) z) := by rw [enF30_24]; exact hD
            rw [enF30_24] at hP hD
            have ew9 : (mdW cA ad (gs g 24 (upd (choM w (g 24) k) (bitC w k) (nI k))) z) = (mdW cA ad (gs g 24 (choM w (g 24) (k + 1))) z) := by first | with_reducible rfl | (first | rw [choM_t c_15 (by omega)] | rw [choM_f (fun h => Bool.false_ne_true (c_15.symm.trans h.1))] | rw [choM_f (fun h => absurd h.2 (by omega))])
            have hP : va_P D vwCl (mdW cA ad (gs g 24 (choM w (g 24) (k + 1))) z) H := va_cast' hP ew9
            have hD : va_D A (mdW cA ad (gs g 24 (choM w (g 24) (k + 1))) z) := va_castD hD ew9
            exact zqJ31  (by omega) _ _ _ hP hD hS (lv_sub hl [0, 1, 2, 3] rfl)
  refine lv_iconst (v := nI 0) hx hb dX6_tellsBest_0 (by decide +kernel) ?_
  refine lv_istore_n (lv' := [(2, .int (nI 0)), (0, .ref (ad 80)), (1, .int w)]) hx hb dX6_tellsBest_1 rfl hl (by decide) rfl (fun ls hl => ?_)
  refine lv_iconst (v := nI 0) hx hb dX6_tellsBest_2 (by decide +kernel) ?_
  refine lv_istore_n (lv' := [(3, .int (nI 0)), (2, .int (nI 0)), (0, .ref (ad 80)), (1, .int w)]) hx hb dX6_tellsBest_3 rfl hl (by decide) rfl (fun ls hl => ?_)
  have e9_0 : (nI 0) = (nI (bitC w 0)) := by first | with_reducible rfl | (rfl)
  have hl9 : lv_has ls 8 [(0, .ref (ad 80)), (1, .int w), (2, .int (nI (bitC w 0))), (3, .int (nI 0))] := lv_cast (l := [(0, .ref (ad 80)), (1, .int w), (2, .int (nI 0)), (3, .int (nI 0))]) (lv_sub hl [2, 3, 1, 0] rfl) (congrArg (fun v9 : Int32 => ([(0, .ref (ad 80)), (1, .int w), (2, .int v9), (3, .int (nI 0))] : List (Nat × Value))) e9_0)
  have ew9 : (mdW cA ad g z) = (mdW cA ad (gs g 24 (choM w (g 24) 0)) z) := by first | with_reducible rfl | (rw [choM_0]; rfl)
  have hP : va_P D vwCl (mdW cA ad (gs g 24 (choM w (g 24) 0)) z) H := va_cast' hP ew9
  have hD : va_D A (mdW cA ad (gs g 24 (choM w (g 24) 0)) z) := va_castD hD ew9
  exact zqL4 (17) 0 (by omega) (by omega) _ _ _ hP hD hS hl9
abbrev rm_X6_best : Room := { frames := 4, cells := 0, slots := 0, locals := 96 }
set_option maxRecDepth 100000 in
set_option maxHeartbeats 4000000 in
theorem c_X6_best (l : Launch) (D : va_G) (cA : ClassId) (ad : Nat → Nat) (g : Nat → Nat → Int32) (z : Nat → Nat) (n9 : Nat) (bn : Nat) (N2 : Nat) (ch : Nat → Int32) (WW : Nat → Int32) (tb : Nat → Nat → Int32) (hn9 : n9 < 2 ^ (z 0)) (hbn : bitC (nI n9) 16 = bn) (hb9 : bn ≤ 6) (hN2 : N2 = 2 ^ bn) (hc : (z 0) ≤ 16) (hch : ∀ k, k < 6 → q_r ((g 24) k) 16) (hch9 : choM (nI n9) (g 24) 16 = ch) (hW9 : ∀ q, wmO g ch (nI q) 6 = WW q) (ht0 : upd (g 27) 0 (nI 0) = tb 0) (hts : ∀ k, upd (tb k) (k + 1) (gbI WW (tb k) (k + 1) (k + 1) (k + 1) (-1000000)) = tb (k + 1)) : q_CI l yX6_best [Cond.code yX6_best cX6_best 2 (some .int)] rm_X6_best D cA [.ref (ad 80), .int (nI n9)] (mdW cA ad g z) (tb (N2 - 1) (N2 - 1)) (mdW cA ad (gs (gs g 24 ch) 27 (tb (N2 - 1))) (zs z 4 0)) := by
  refine q_startI RX6 (by decide +kernel) rfl (Nat.le_of_ble_eq_true rfl) ?_
  intro p e s m below meth c A args H locs ls hx hb hr hml hown hT hlk hP hK hD hA hS hl
  have hl : lv_has ls 2 [(0, .ref (ad 80)), (1, .int (nI n9))] := hl
  refine lv_aload_n hx hb dX6_best_0 rfl (lv_at hl 0 rfl) ?_
  refine lv_iload_n hx hb dX6_best_1 rfl (lv_at hl 1 rfl) ?_
  refine q_callIW (As := [.int (nI n9)]) (r := tb (N2 - 1) (N2 - 1)) (w1 := mdW cA ad (gs (gs g 24 ch) 27 (tb (N2 - 1))) (zs z 4 0)) hx hb hml hown hT hK hP hD hS hA (c_X6_tellsBest l D cA ad g z n9 bn N2 ch WW tb hn9 hbn hb9 hN2 (show (z 0) ≤ 16 by omega) hch hch9 hW9 ht0 hts) k_X6_tellsBest kl_X6_174 (q0 := 0) rfl rfl rfl ((mdW_adr _ _ _ _).trans (mdW_adr _ _ _ _).symm) hl rfl rfl (Nat.le_of_ble_eq_true rfl) ⟨⟨rfl, rfl⟩, Nat.le_of_ble_eq_true rfl, Nat.le_of_ble_eq_true rfl⟩ ⟨Nat.zero_le _, Nat.zero_le _⟩ dX6_best_2 (fun H locs hP hD hS => ?_)
  exact q_iret hx hb hr hlk (by rfl) hP hS dX6_best_5
abbrev rm_X6_bestx : Room := { frames := 2, cells := 0, slots := 0, locals := 49 }
set_option maxRecDepth 100000 in
set_option maxHeartbeats 4000000 in
theorem c_X6_bestx (l : Launch) (D : va_G) (cA : ClassId) (ad : Nat → Nat) (g : Nat → Nat → Int32) (z : Nat → Nat) (w : Int32) (hc : (z 0) ≤ 16) (hx9 : ¬ ((¬ w < nI 0 ∧ w ≤ nI (2 ^ (z 0) - 1)) ∧ bitC w 16 ≤ 6)) : q_CI l yX6_best [Cond.code yX6_best cX6_best 2 (some .int)] rm_X6_bestx D cA [.ref (ad 80), .int w] (mdW cA ad g z) (nI 0) (mdW cA ad (gs g 24 (choM w (g 24) 16)) (zs z 4 1)) := by
  refine q_startI RX6 (by decide +kernel) rfl (Nat.le_of_ble_eq_true rfl) ?_
  intro p e s m below meth c A args H locs ls hx hb hr hml hown hT hlk hP hK hD hA hS hl
  have hl : lv_has ls 2 [(0, .ref (ad 80)), (1, .int w)] := hl
  refine lv_aload_n hx hb dX6_best_0 rfl (lv_at hl 0 rfl) ?_
  refine lv_iload_n hx hb dX6_best_1 rfl (lv_at hl 1 rfl) ?_
  refine q_callIW (As := [.int w]) (r := nI 0) (w1 := mdW cA ad (gs g 24 (choM w (g 24) 16)) (zs z 4 1)) hx hb hml hown hT hK hP hD hS hA (c_X6_tellsBestx l D cA ad g z w (show (z 0) ≤ 16 by omega) hx9) k_X6_tellsBest kl_X6_174 (q0 := 0) rfl rfl rfl ((mdW_adr _ _ _ _).trans (mdW_adr _ _ _ _).symm) hl rfl rfl (Nat.le_of_ble_eq_true rfl) ⟨⟨rfl, rfl⟩, Nat.le_of_ble_eq_true rfl, Nat.le_of_ble_eq_true rfl⟩ ⟨Nat.zero_le _, Nat.zero_le _⟩ dX6_best_2 (fun H locs hP hD hS => ?_)
  exact q_iret hx hb hr hlk (by rfl) hP hS dX6_best_5
abbrev rm_X6_bestAnew : Room := { frames := 4, cells := 0, slots := 0, locals := 96 }
set_option maxRecDepth 100000 in
set_option maxHeartbeats 4000000 in
theorem c_X6_bestAnew (l : Launch) (D : va_G) (cA : ClassId) (ad : Nat → Nat) (g : Nat → Nat → Int32) (z : Nat → Nat) (n9 : Nat) (bn : Nat) (N2 : Nat) (ch : Nat → Int32) (WW : Nat → Int32) (tb : Nat → Nat → Int32) (hn9 : n9 < 2 ^ (z 0)) (hbn : bitC (nI n9) 16 = bn) (hb9 : bn ≤ 6) (hN2 : N2 = 2 ^ bn) (hc : (z 0) ≤ 16) (hch : ∀ k, k < 6 → q_r ((g 24) k) 16) (hch9 : choM (nI n9) (g 24) 16 = ch) (hW9 : ∀ q, wmO g ch (nI q) 6 = WW q) (ht0 : upd (g 27) 0 (nI 0) = tb 0) (hts : ∀ k, upd (tb k) (k + 1) (gbI WW (tb k) (k + 1) (k + 1) (k + 1) (-1000000)) = tb (k + 1)) : q_CI l yX6_bestAnew [Cond.code yX6_bestAnew cX6_bestAnew 2 (some .int)] rm_X6_bestAnew D cA [.ref (ad 80), .int (nI n9)] (mdW cA ad g z) (tb (N2 - 1) (N2 - 1)) (mdW cA ad (gs (gs g 24 ch) 27 (tb (N2 - 1))) (zs z 4 0)) := by
  refine q_startI RX6 (by decide +kernel) rfl (Nat.le_of_ble_eq_true rfl) ?_
  intro p e s m below meth c A args H locs ls hx hb hr hml hown hT hlk hP hK hD hA hS hl
  have hl : lv_has ls 2 [(0, .ref (ad 80)), (1, .int (nI n9))] := hl
  refine lv_aload_n hx hb dX6_bestAnew_0 rfl (lv_at hl 0 rfl) ?_
  refine lv_iload_n hx hb dX6_bestAnew_1 rfl (lv_at hl 1 rfl) ?_
  refine q_callIW (As := [.int (nI n9)]) (r := tb (N2 - 1) (N2 - 1)) (w1 := mdW cA ad (gs (gs g 24 ch) 27 (tb (N2 - 1))) (zs z 4 0)) hx hb hml hown hT hK hP hD hS hA (c_X6_tellsBest l D cA ad g z n9 bn N2 ch WW tb hn9 hbn hb9 hN2 (show (z 0) ≤ 16 by omega) hch hch9 hW9 ht0 hts) k_X6_tellsBest kl_X6_174 (q0 := 0) rfl rfl rfl ((mdW_adr _ _ _ _).trans (mdW_adr _ _ _ _).symm) hl rfl rfl (Nat.le_of_ble_eq_true rfl) ⟨⟨rfl, rfl⟩, Nat.le_of_ble_eq_true rfl, Nat.le_of_ble_eq_true rfl⟩ ⟨Nat.zero_le _, Nat.zero_le _⟩ dX6_bestAnew_2 (fun H locs hP hD hS => ?_)
  exact q_iret hx hb hr hlk (by rfl) hP hS dX6_bestAnew_5
abbrev rm_X6_bestAnewx : Room := { frames := 2, cells := 0, slots := 0, locals := 49 }
set_option maxRecDepth 100000 in
set_option maxHeartbeats 4000000 in
theorem c_X6_bestAnewx (l : Launch) (D : va_G) (cA : ClassId) (ad : Nat → Nat) (g : Nat → Nat → Int32) (z : Nat → Nat) (w : Int32) (hc : (z 0) ≤ 16) (hx9 : ¬ ((¬ w < nI 0 ∧ w ≤ nI (2 ^ (z 0) - 1)) ∧ bitC w 16 ≤ 6)) : q_CI l yX6_bestAnew [Cond.code yX6_bestAnew cX6_bestAnew 2 (some .int)] rm_X6_bestAnewx D cA [.ref (ad 80), .int w] (mdW cA ad g z) (nI 0) (mdW cA ad (gs g 24 (choM w (g 24) 16)) (zs z 4 1)) := by
  refine q_startI RX6 (by decide +kernel) rfl (Nat.le_of_ble_eq_true rfl) ?_
  intro p e s m below meth c A args H locs ls hx hb hr hml hown hT hlk hP hK hD hA hS hl
  have hl : lv_has ls 2 [(0, .ref (ad 80)), (1, .int w)] := hl
  refine lv_aload_n hx hb dX6_bestAnew_0 rfl (lv_at hl 0 rfl) ?_
  refine lv_iload_n hx hb dX6_bestAnew_1 rfl (lv_at hl 1 rfl) ?_
  refine q_callIW (As := [.int w]) (r := nI 0) (w1 := mdW cA ad (gs g 24 (choM w (g 24) 16)) (zs z 4 1)) hx hb hml hown hT hK hP hD hS hA (c_X6_tellsBestx l D cA ad g z w (show (z 0) ≤ 16 by omega) hx9) k_X6_tellsBest kl_X6_174 (q0 := 0) rfl rfl rfl ((mdW_adr _ _ _ _).trans (mdW_adr _ _ _ _).symm) hl rfl rfl (Nat.le_of_ble_eq_true rfl) ⟨⟨rfl, rfl⟩, Nat.le_of_ble_eq_true rfl, Nat.le_of_ble_eq_true rfl⟩ ⟨Nat.zero_le _, Nat.zero_le _⟩ dX6_bestAnew_2 (fun H locs hP hD hS => ?_)
  exact q_iret hx hb hr hlk (by rfl) hP hS dX6_bestAnew_5
