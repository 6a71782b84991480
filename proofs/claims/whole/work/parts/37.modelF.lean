theorem repl_i {f : Nat → Int32} {v w : Int32} {k : Nat} : upd (repl f v w k) k (if f k = v then w else f k) = repl f v w (k + 1) := by
  by_cases h : f k = v
  · rw [if_pos h]; exact repl_t h
  · rw [if_neg h, ← repl_f h]
    have e : f k = repl f v w k k := repl_k.symm
    funext j
    simp only [upd]
    split
    · rename_i hj; rw [hj, repl_k]
    · rfl
theorem rsN_le (g : Nat → Nat → Int32) (n i j : Nat) : rsN g n i j ≤ 5 := by
  unfold rsN
  repeat' split
  all_goals omega
/-- where a career falls, by counting -/
def bmK (g : Nat → Nat → Int32) (x : Int32) : Int32 := g 5 (q_n (g 3 (q_n x)))
def bmR (g : Nat → Nat → Int32) (w : Int32) (n : Nat) : Nat → Nat → Int32 → Nat → Nat
  | 0, _, _, t => t
  | u + 1, a, b, t => if b = (-1) then t else bmR g w n u (a + 1) (icF g w n a n) (if ¬ icF g w n a n = (-1) ∧ bmK g (icF g w n a n) < bmK g b then t + 1 else t)
theorem icF_r {g : Nat → Nat → Int32} {w : Int32} {n p : Nat} (hn : n ≤ 16) (hp : ∀ k, k < n → g 3 k = (-1) ∨ q_r (g 3 k) 8) : ∀ k, k ≤ n → icF g w n p k = (-1) ∨ (q_r (icF g w n p k) 16 ∧ q_r (g 3 (q_n (icF g w n p k))) 8)
  | 0, _ => Or.inl rfl
  | k + 1, hk => by
    rw [icF]
    split
    · rename_i h
      have h1 := of_decide_eq_true h.1
      refine Or.inr ⟨q_r_nI (by omega), ?_⟩
      rw [q_n_nI (by omega)]
      exact (hp k (by omega)).resolve_left h1.2
    · exact icF_r hn hp k (by omega)
theorem bmR_s {g : Nat → Nat → Int32} {w b : Int32} {n u a t X : Nat} (h : bmR g w n (u + 1) a b t = X) (hb : ¬ b = (-1)) : bmR g w n u (a + 1) (icF g w n a n) (if ¬ icF g w n a n = (-1) ∧ bmK g (icF g w n a n) < bmK g b then t + 1 else t) = X := by rw [bmR, if_neg hb] at h; exact h
theorem bmR_e {g : Nat → Nat → Int32} {w b : Int32} {n u a t X : Nat} (h : bmR g w n u a b t = X) (hb : b = (-1)) : t = X := by
  cases u with
  | zero => exact h
  | succ u => rw [bmR, if_pos hb] at h; exact h
theorem q_ifadd {P : Prop} {_ : Decidable P} {t : Nat} : nI t + q_b (decide P) = nI (if P then t + 1 else t) := by
  by_cases h : P
  · rw [if_pos h, decide_eq_true h]; exact nI_add t 1
  · rw [if_neg h, decide_eq_false h]; exact nI_add t 0
def dmI (g : Nat → Nat → Int32) (k : Nat) : Nat → Nat
  | 0 => 0
  | m + 1 => if ¬ kn (g 4 k) (g 4 m) = decide (g 22 k = g 22 m) then dmI g k m + 1 else dmI g k m
def dmO (g : Nat → Nat → Int32) : Nat → Nat
  | 0 => 0
  | k + 1 => dmO g k + dmI g k k
theorem dmI_addb {g : Nat → Nat → Int32} {k m c : Nat} : nI (c + dmI g k m) + q_b (decide (¬ kn (g 4 k) (g 4 m) = decide (g 22 k = g 22 m))) = nI (c + dmI g k (m + 1)) := by
  rw [q_addb, dmI]
  by_cases h : kn (g 4 k) (g 4 m) = decide (g 22 k = g 22 m)
  · rw [if_neg (fun z => z h), decide_eq_false (fun z => z h)]; rfl
  · rw [if_pos h, decide_eq_true h]; rfl
theorem q_b_inj' {a b : Bool} (h : q_b a = q_b b) : a = b := q_b_inj h
def sdI (ow kk : Nat → Int32) (t k : Nat) (st : Nat → Int32) : Nat → Nat → Int32
  | 0 => st
  | m + 1 => if sdI ow kk t k st m (q_n (ow k)) = nI t ∧ hasB (kk k) (nI m) = true ∧ sdI ow kk t k st m (q_n (ow m)) = (-1) then upd (sdI ow kk t k st m) (q_n (ow m)) (nI (t + 1)) else sdI ow kk t k st m
def sdK (ow kk : Nat → Int32) (c0 t : Nat) (st : Nat → Int32) : Nat → Nat → Int32
  | 0 => st
  | k + 1 => sdI ow kk t k (sdK ow kk c0 t st k) c0
def sdN (ow kk : Nat → Int32) (c0 : Nat) (st : Nat → Int32) : Nat → Nat → Int32
  | 0 => st
  | t + 1 => sdK ow kk c0 t (sdN ow kk c0 st t) c0
theorem sdI_t {ow kk : Nat → Int32} {t k m : Nat} {st : Nat → Int32} (h : sdI ow kk t k st m (q_n (ow k)) = nI t) (h2 : hasB (kk k) (nI m) = true) (h3 : sdI ow kk t k st m (q_n (ow m)) = (-1)) : upd (sdI ow kk t k st m) (q_n (ow m)) (nI (t + 1)) = sdI ow kk t k st (m + 1) := by rw [sdI, if_pos ⟨h, h2, h3⟩]
theorem sdI_f {ow kk : Nat → Int32} {t k m : Nat} {st : Nat → Int32} (h : ¬ (sdI ow kk t k st m (q_n (ow k)) = nI t ∧ hasB (kk k) (nI m) = true ∧ sdI ow kk t k st m (q_n (ow m)) = (-1))) : sdI ow kk t k st m = sdI ow kk t k st (m + 1) := by rw [sdI, if_neg h]
theorem sdI_0 {ow kk : Nat → Int32} {t k : Nat} {st : Nat → Int32} : sdI ow kk t k st 0 = st := rfl
theorem sdK_0 {ow kk : Nat → Int32} {c0 t : Nat} {st : Nat → Int32} : sdK ow kk c0 t st 0 = st := rfl
theorem sdN_0 {ow kk : Nat → Int32} {c0 : Nat} {st : Nat → Int32} : sdN ow kk c0 st 0 = st := rfl
theorem sdK_s {ow kk : Nat → Int32} {c0 t k : Nat} {st : Nat → Int32} : sdI ow kk t k (sdK ow kk c0 t st k) c0 = sdK ow kk c0 t st (k + 1) := rfl
theorem sdN_s {ow kk : Nat → Int32} {c0 t : Nat} {st : Nat → Int32} : sdK ow kk c0 t (sdN ow kk c0 st t) c0 = sdN ow kk c0 st (t + 1) := rfl
abbrev rm_X6_join : Room := { frames := 4, cells := 0, slots := 0, locals := 93 }
set_option maxRecDepth 100000 in
set_option maxHeartbeats 4000000 in
theorem c_X6_join (l : Launch) (D : va_G) (cA : ClassId) (ad : Nat → Nat) (g : Nat → Nat → Int32) (z : Nat → Nat) (i : Nat) (j : Nat) (hi : i < (z 0)) (hj : j < (z 0)) (hc : (z 0) ≤ 16) (hne : ¬ i = j) (hPo : ∀ k, k < (z 0) → (g 3) k = (-1) ∨ q_r ((g 3) k) 8) (hra : rsN g (z 0) i j = 0) (hO : ∀ k, k < (z 0) → q_r ((g 22) k) 40) (hm9 : (z 2) ≤ 40) : q_CI l yX6_join [Cond.code yX6_join cX6_join 8 (some .int)] rm_X6_join D cA [.ref (ad 80), .int (nI i), .int (nI j)] (mdW cA ad g z) (nI (min (q_n (g 22 i)) (q_n (g 22 j)))) (mdW cA ad (gs (gs g 22 (repl (g 22) (nI (max (q_n (g 22 i)) (q_n (g 22 j)))) (nI (min (q_n (g 22 i)) (q_n (g 22 j)))) (z 0))) 23 (repl (g 23) (nI (max (q_n (g 22 i)) (q_n (g 22 j)))) (nI (min (q_n (g 22 i)) (q_n (g 22 j)))) (z 2))) (zs z 4 0)) := by
  refine q_startI RX6 (by decide +kernel) rfl (Nat.le_of_ble_eq_true rfl) ?_
  intro p e s m below meth c A args H locs ls hx hb hr hml hown hT hlk hP hK hD hA hS hl
  have hl : lv_has ls 8 [(0, .ref (ad 80)), (1, .int (nI i)), (2, .int (nI j))] := hl
  have hq1 := (hO i (by omega)).lt (by omega)
  have hq2 := (hO j (by omega)).lt (by omega)
  have zqL84 : ∀ (fu : Nat), ∀ (k : Nat), (z 0 + 1 ≤ k + fu) → (k ≤ (z 0)) → ∀ (H : Heap) (locs : List Loc) (ls : Array Slot), va_P D vwCl (mdW cA ad (gs g 22 (repl (g 22) (nI (max (q_n (g 22 i)) (q_n (g 22 j)))) (nI (min (q_n (g 22 i)) (q_n (g 22 j)))) k)) (zs z 4 0)) H → va_D A (mdW cA ad (gs g 22 (repl (g 22) (nI (max (q_n (g 22 i)) (q_n (g 22 j)))) (nI (min (q_n (g 22 i)) (q_n (g 22 j)))) k)) (zs z 4 0)) → va_S A s.heap H locs → lv_has ls 8 [(0, .ref (ad 80)), (5, .int (nI (min (q_n (g 22 i)) (q_n (g 22 j))))), (6, .int (nI (max (q_n (g 22 i)) (q_n (g 22 j))))), (7, .int (nI k))] → W p l e rm_X6_join s m args below meth c H locs 0 0 (q_GI D (nI (min (q_n (g 22 i)) (q_n (g 22 j)))) (mdW cA ad (gs (gs g 22 (repl (g 22) (nI (max (q_n (g 22 i)) (q_n (g 22 j)))) (nI (min (q_n (g 22 i)) (q_n (g 22 j)))) (z 0))) 23 (repl (g 23) (nI (max (q_n (g 22 i)) (q_n (g 22 j)))) (nI (min (q_n (g 22 i)) (q_n (g 22 j)))) (z 2))) (zs z 4 0)) A below args s) (F0 m 84 ls []) := by
    intro fu
    induction fu with
    | zero =>
      intro k hfu hk H locs ls hP hD hS hl
      exfalso; omega
    | succ fu ih84 =>
      intro k hfu hk H locs ls hP hD hS hl
      have zqL133 : ∀ (fu : Nat), ∀ (k2 : Nat), (z 2 + 1 ≤ k2 + fu) → (k2 ≤ (z 2)) → ∀ (H : Heap) (locs : List Loc) (ls : Array Slot), va_P D vwCl (mdW cA ad (gs (gs g 22 (repl (g 22) (nI (max (q_n (g 22 i)) (q_n (g 22 j)))) (nI (min (q_n (g 22 i)) (q_n (g 22 j)))) (z 0))) 23 (repl (g 23) (nI (max (q_n (g 22 i)) (q_n (g 22 j)))) (nI (min (q_n (g 22 i)) (q_n (g 22 j)))) k2)) (zs z 4 0)) H → va_D A (mdW cA ad (gs (gs g 22 (repl (g 22) (nI (max (q_n (g 22 i)) (q_n (g 22 j)))) (nI (min (q_n (g 22 i)) (q_n (g 22 j)))) (z 0))) 23 (repl (g 23) (nI (max (q_n (g 22 i)) (q_n (g 22 j)))) (nI (min (q_n (g 22 i)) (q_n (g 22 j)))) k2)) (zs z 4 0)) → va_S A s.heap H locs → lv_has ls 8 [(0, .ref (ad 80)), (5, .int (nI (min (q_n (g 22 i)) (q_n (g 22 j))))), (6, .int (nI (max (q_n (g 22 i)) (q_n (g 22 j))))), (7, .int (nI k2))] → W p l e rm_X6_join s m args below meth c H locs 0 0 (q_GI D (nI (min (q_n (g 22 i)) (q_n (g 22 j)))) (mdW cA ad (gs (gs g 22 (repl (g 22) (nI (max (q_n (g 22 i)) (q_n (g 22 j)))) (nI (min (q_n (g 22 i)) (q_n (g 22 j)))) (z 0))) 23 (repl (g 23) (nI (max (q_n (g 22 i)) (q_n (g 22 j)))) (nI (min (q_n (g 22 i)) (q_n (g 22 j)))) (z 2))) (zs z 4 0)) A below args s) (F0 m 133 ls []) := by
        intro fu
        induction fu with
        | zero =>
          intro k2 hfu hk2 H locs ls hP hD hS hl
          exfalso; omega
        | succ fu ih133 =>
          intro k2 hfu hk2 H locs ls hP hD hS hl
          have zqJ172 : (k2 < (z 2)) → ∀ (H : Heap) (locs : List Loc) (ls : Array Slot), va_P D vwCl (mdW cA ad (gs (gs g 22 (repl (g 22) (nI (max (q_n (g 22 i)) (q_n (g 22 j)))) (nI (min (q_n (g 22 i)) (q_n (g 22 j)))) (z 0))) 23 (repl (g 23) (nI (max (q_n (g 22 i)) (q_n (g 22 j)))) (nI (min (q_n (g 22 i)) (q_n (g 22 j)))) k2)) (zs z 4 0)) H → va_D A (mdW cA ad (gs (gs g 22 (repl (g 22) (nI (max (q_n (g 22 i)) (q_n (g 22 j)))) (nI (min (q_n (g 22 i)) (q_n (g 22 j)))) (z 0))) 23 (repl (g 23) (nI (max (q_n (g 22 i)) (q_n (g 22 j)))) (nI (min (q_n (g 22 i)) (q_n (g 22 j)))) k2)) (zs z 4 0)) → va_S A s.heap H locs → lv_has ls 8 [(0, .ref (ad 80)), (5, .int (nI (min (q_n (g 22 i)) (q_n (g 22 j))))), (6, .int (nI (max (q_n (g 22 i)) (q_n (g 22 j))))), (7, .int (nI k2))] → W p l e rm_X6_join s m args below meth c H locs 0 0 (q_GI D (nI (min (q_n (g 22 i)) (q_n (g 22 j)))) (mdW cA ad (gs (gs g 22 (repl (g 22) (nI (max (q_n (g 22 i)) (q_n (g 22 j)))) (nI (min (q_n (g 22 i)) (q_n (g 22 j)))) (z 0))) 23 (repl (g 23) (nI (max (q_n (g 22 i)) (q_n (g 22 j)))) (nI (min (q_n (g 22 i)) (q_n (g 22 j)))) (z 2))) (zs z 4 0)) A below args s) (F0 m 172 ls [.int (if (g 23) k2 = nI (max (q_n (g 22 i)) (q_n (g 22 j))) then nI (min (q_n (g 22 i)) (q_n (g 22 j))) else (g 23) k2), .int (nI k2), .ref (ad 23)]) := by
            intro  hk9 H locs ls hP hD hS hl
            refine q_iast (f := repl (g 23) (nI (max (q_n (g 22 i)) (q_n (g 22 j)))) (nI (min (q_n (g 22 i)) (q_n (g 22 j)))) k2) (ws1 := mdW cA ad (gs (gs g 22 (repl (g 22) (nI (max (q_n (g 22 i)) (q_n (g 22 j)))) (nI (min (q_n (g 22 i)) (q_n (g 22 j)))) (z 0))) 23 (upd (repl (g 23) (nI (max (q_n (g 22 i)) (q_n (g 22 j)))) (nI (min (q_n (g 22 i)) (q_n (g 22 j)))) k2) k2 (if (g 23) k2 = nI (max (q_n (g 22 i)) (q_n (g 22 j))) then nI (min (q_n (g 22 i)) (q_n (g 22 j))) else (g 23) k2))) (zs z 4 0)) hx hb hK hP hD hS 21 0 rfl rfl (k2) rfl (by omega) (by omega) rfl dX6_join_172 (fun H locs hP hD hS => ?_)
            obtain ⟨nF172_23, enF172_23⟩ : ∃ y : Nat → Int32, y = upd (repl (g 23) (nI (max (q_n (g 22 i)) (q_n (g 22 j)))) (nI (min (q_n (g 22 i)) (q_n (g 22 j)))) k2) k2 (if (g 23) k2 = nI (max (q_n (g 22 i)) (q_n (g 22 j))) then nI (min (q_n (g 22 i)) (q_n (g 22 j))) else (g 23) k2) := ⟨_, rfl⟩
            have hP : va_P D vwCl (mdW cA ad (gs (gs g 22 (repl (g 22) (nI (max (q_n (g 22 i)) (q_n (g 22 j)))) (nI (min (q_n (g 22 i)) (q_n (g 22 j)))) (z 0))) 23 nF172_23) (zs z 4 0)) H := by rw [enF172_23]; exact hP
            have hD : va_D A (mdW cA ad (gs (gs g 22 (repl (g 22) (nI (max (q_n (g 22 i)) (q_n (g 22 j)))) (nI (min (q_n (g 22 i)) (q_n (g 22 j)))) (z 0))) 23 nF172_23) (zs z 4 0)) := by rw [enF172_23]; exact hD
            refine lv_iinc (v := nI (k2 + 1)) (lv' := [(7, .int (nI (k2 + 1))), (0, .ref (ad 80)), (5, .int (nI (min (q_n (g 22 i)) (q_n (g 22 j))))), (6, .int (nI (max (q_n (g 22 i)) (q_n (g 22 j)))))]) hx hb dX6_join_173 hl (k := 3) rfl (q_inc1 _) (by decide) rfl (fun ls hl => ?_)
            refine lv_goto (tgt := 133) hx hb dX6_join_176 (by decide) ?_
            rw [enF172_23] at hP hD
            have ew9 : (mdW cA ad (gs (gs g 22 (repl (g 22) (nI (max (q_n (g 22 i)) (q_n (g 22 j)))) (nI (min (q_n (g 22 i)) (q_n (g 22 j)))) (z 0))) 23 (upd (repl (g 23) (nI (max (q_n (g 22 i)) (q_n (g 22 j)))) (nI (min (q_n (g 22 i)) (q_n (g 22 j)))) k2) k2 (if (g 23) k2 = nI (max (q_n (g 22 i)) (q_n (g 22 j))) then nI (min (q_n (g 22 i)) (q_n (g 22 j))) else (g 23) k2))) (zs z 4 0)) = (mdW cA ad (gs (gs g 22 (repl (g 22) (nI (max (q_n (g 22 i)) (q_n (g 22 j)))) (nI (min (q_n (g 22 i)) (q_n (g 22 j)))) (z 0))) 23 (repl (g 23) (nI (max (q_n (g 22 i)) (q_n (g 22 j)))) (nI (min (q_n (g 22 i)) (q_n (g 22 j)))) (k2 + 1))) (zs z 4 0)) := by first | with_reducible rfl | (first | rw [repl_i] | (rw [repl_0, show k = z 0 by omega]; rfl))
            have hP : va_P D vwCl (mdW cA ad (gs (gs g 22 (repl (g 22) (nI (max (q_n (g 22 i)) (q_n (g 22 j)))) (nI (min (q_n (g 22 i)) (q_n (g 22 j)))) (z 0))) 23 (repl (g 23) (nI (max (q_n (g 22 i)) (q_n (g 22 j)))) (nI (min (q_n (g 22 i)) (q_n (g 22 j)))) (k2 + 1))) (zs z 4 0)) H := va_cast' hP ew9
            have hD : va_D A (mdW cA ad (gs (gs g 22 (repl (g 22) (nI (max (q_n (g 22 i)) (q_n (g 22 j)))) (nI (min (q_n (g 22 i)) (q_n (g 22 j)))) (z 0))) 23 (repl (g 23) (nI (max (q_n (g 22 i)) (q_n (g 22 j)))) (nI (min (q_n (g 22 i)) (q_n (g 22 j)))) (k2 + 1))) (zs z 4 0)) := va_castD hD ew9
            exact ih133 (k2 + 1) (by omega) (by omega) _ _ _ hP hD hS (lv_sub hl [1, 2, 3, 0] rfl)
          refine lv_iload hx hb dX6_join_133 (lv_at hl 3 rfl) ?_
          refine lv_aload_n hx hb dX6_join_135 rfl (lv_at hl 0 rfl) ?_
          refine q_get hx hb hT hown hK hP kw_X6 0 rfl rfl 21 (by decide) kf_X6_93 rfl (v := .int (nI (z 2))) rfl dX6_join_136 ?_
          refine lv_icmp_ge (tgt := 179) hx hb dX6_join_139 (by decide) (fun c_139 => ?_) (fun c_139 => ?_)
          · have c_139 := nI_le1 (a := z 2) (b := k2) (by omega) (by omega) c_139
            refine lv_iload hx hb dX6_join_179 (lv_at hl 1 rfl) ?_
            exact q_iret hx hb hr hlk (by rfl) (va_cast' hP (by rw [show k2 = z 2 by omega])) hS dX6_join_181
          · have c_139 := nI_le0 (a := z 2) (b := k2) (by omega) (by omega) c_139
            refine lv_aload_n hx hb dX6_join_142 rfl (lv_at hl 0 rfl) ?_
            refine q_get hx hb hT hown hK hP kw_X6 0 rfl rfl 23 (by decide) kf_X6_70 rfl (v := .ref (ad 23)) rfl dX6_join_143 ?_
            refine lv_iload hx hb dX6_join_146 (lv_at hl 3 rfl) ?_
            refine lv_aload_n hx hb dX6_join_148 rfl (lv_at hl 0 rfl) ?_
            refine q_get hx hb hT hown hK hP kw_X6 0 rfl rfl 23 (by decide) kf_X6_70 rfl (v := .ref (ad 23)) rfl dX6_join_149 ?_
            refine lv_iload hx hb dX6_join_152 (lv_at hl 3 rfl) ?_
            refine q_iald (f := repl (g 23) (nI (max (q_n (g 22 i)) (q_n (g 22 j)))) (nI (min (q_n (g 22 i)) (q_n (g 22 j)))) k2) hx hb hK hP 21 0 rfl rfl (k2) rfl (by omega) (by omega) dX6_join_154 ?_
            refine q_top (y := (g 23) k2) (repl_k) ?_
            refine lv_iload hx hb dX6_join_155 (lv_at hl 2 rfl) ?_
            refine lv_icmp_ne (tgt := 165) hx hb dX6_join_157 (by decide) (fun c_157 => ?_) (fun c_157 => ?_)
            · refine lv_aload_n hx hb dX6_join_165 rfl (lv_at hl 0 rfl) ?_
              refine q_get hx hb hT hown hK hP kw_X6 0 rfl rfl 23 (by decide) kf_X6_70 rfl (v := .ref (ad 23)) rfl dX6_join_166 ?_
              refine lv_iload hx hb dX6_join_169 (lv_at hl 3 rfl) ?_
              refine q_iald (f := repl (g 23) (nI (max (q_n (g 22 i)) (q_n (g 22 j)))) (nI (min (q_n (g 22 i)) (q_n (g 22 j)))) k2) hx hb hK hP 21 0 rfl rfl (k2) rfl (by omega) (by omega) dX6_join_171 ?_
              refine q_top (y := (g 23) k2) (repl_k) ?_
              refine q_top (y := (if (g 23) k2 = nI (max (q_n (g 22 i)) (q_n (g 22 j))) then nI (min (q_n (g 22 i)) (q_n (g 22 j))) else (g 23) k2)) (by first | rw [if_pos c_157] | rw [if_neg c_157]) ?_
              exact zqJ172  (by omega) _ _ _ hP hD hS (lv_sub hl [0, 1, 2, 3] rfl)
            · refine lv_iload hx hb dX6_join_160 (lv_at hl 1 rfl) ?_
              refine lv_goto (tgt := 172) hx hb dX6_join_162 (by decide) ?_
              refine q_top (y := (if (g 23) k2 = nI (max (q_n (g 22 i)) (q_n (g 22 j))) then nI (min (q_n (g 22 i)) (q_n (g 22 j))) else (g 23) k2)) (by first | rw [if_pos c_157] | rw [if_neg c_157]) ?_
              exact zqJ172  (by omega) _ _ _ hP hD hS (lv_sub hl [0, 1, 2, 3] rfl)
      have zqJ123 : (k < (z 0)) → ∀ (H : Heap) (locs : List Loc) (ls : Array Slot), va_P D vwCl (mdW cA ad (gs g 22 (repl (g 22) (nI (max (q_n (g 22 i)) (q_n (g 22 j)))) (nI (min (q_n (g 22 i)) (q_n (g 22 j)))) k)) (zs z 4 0)) H → va_D A (mdW cA ad (gs g 22 (repl (g 22) (nI (max (q_n (g 22 i)) (q_n (g 22 j)))) (nI (min (q_n (g 22 i)) (q_n (g 22 j)))) k)) (zs z 4 0)) → va_S A s.heap H locs → lv_has ls 8 [(0, .ref (ad 80)), (5, .int (nI (min (q_n (g 22 i)) (q_n (g 22 j))))), (6, .int (nI (max (q_n (g 22 i)) (q_n (g 22 j))))), (7, .int (nI k))] → W p l e rm_X6_join s m args below meth c H locs 0 0 (q_GI D (nI (min (q_n (g 22 i)) (q_n (g 22 j)))) (mdW cA ad (gs (gs g 22 (repl (g 22) (nI (max (q_n (g 22 i)) (q_n (g 22 j)))) (nI (min (q_n (g 22 i)) (q_n (g 22 j)))) (z 0))) 23 (repl (g 23) (nI (max (q_n (g 22 i)) (q_n (g 22 j)))) (nI (min (q_n (g 22 i)) (q_n (g 22 j)))) (z 2))) (zs z 4 0)) A below args s) (F0 m 123 ls [.int (if (g 22) k = nI (max (q_n (g 22 i)) (q_n (g 22 j))) then nI (min (q_n (g 22 i)) (q_n (g 22 j))) else (g 22) k), .int (nI k), .ref (ad 22)]) := by
        intro  hk9 H locs ls hP hD hS hl
        refine q_iast (f := repl (g 22) (nI (max (q_n (g 22 i)) (q_n (g 22 j)))) (nI (min (q_n (g 22 i)) (q_n (g 22 j)))) k) (ws1 := mdW cA ad (gs g 22 (upd (repl (g 22) (nI (max (q_n (g 22 i)) (q_n (g 22 j)))) (nI (min (q_n (g 22 i)) (q_n (g 22 j)))) k) k (if (g 22) k = nI (max (q_n (g 22 i)) (q_n (g 22 j))) then nI (min (q_n (g 22 i)) (q_n (g 22 j))) else (g 22) k))) (zs z 4 0)) hx hb hK hP hD hS 20 0 rfl rfl (k) rfl (by omega) (by omega) rfl dX6_join_123 (fun H locs hP hD hS => ?_)
        obtain ⟨nF123_22, enF123_22⟩ : ∃ y : Nat → Int32, y = upd (repl (g 22) (nI (max (q_n (g 22 i)) (q_n (g 22 j)))) (nI (min (q_n (g 22 i)) (q_n (g 22 j)))) k) k (if (g 22) k = nI (max (q_n (g 22 i)) (q_n (g 22 j))) then nI (min (q_n (g 22 i)) (q_n (g 22 j))) else (g 22) k) := ⟨_, rfl⟩
        have hP : va_P D vwCl (mdW cA ad (gs g 22 nF123_22) (zs z 4 0)) H := by rw [enF123_22]; exact hP
        have hD : va_D A (mdW cA ad (gs g 22 nF123_22) (zs z 4 0)) := by rw [enF123_22]; exact hD
        refine lv_iinc (v := nI (k + 1)) (lv' := [(7, .int (nI (k + 1))), (0, .ref (ad 80)), (5, .int (nI (min (q_n (g 22 i)) (q_n (g 22 j))))), (6, .int (nI (max (q_n (g 22 i)) (q_n (g 22 j)))))]) hx hb dX6_join_124 hl (k := 3) rfl (q_inc1 _) (by decide) rfl (fun ls hl => ?_)
        refine lv_goto (tgt := 84) hx hb dX6_join_127 (by decide) ?_
        rw [enF123_22] at hP hD
        have ew9 : (mdW cA ad (gs g 22 (upd (repl (g 22) (nI (max (q_n (g 22 i)) (q_n (g 22 j)))) (nI (min (q_n (g 22 i)) (q_n (g 22 j)))) k) k (if (g 22) k = nI (max (q_n (g 22 i)) (q_n (g 22 j))) then nI (min (q_n (g 22 i)) (q_n (g 22 j))) else (g 22) k))) (zs z 4 0)) = (mdW cA ad (gs g 22 (repl (g 22) (nI (max (q_n (g 22 i)) (q_n (g 22 j)))) (nI (min (q_n (g 22 i)) (q_n (g 22 j)))) (k + 1))) (zs z 4 0)) := by first | with_reducible rfl | (first | (rw [repl_0]; rfl) | rw [repl_i])
        have hP : va_P D vwCl (mdW cA ad (gs g 22 (repl (g 22) (nI (max (q_n (g 22 i)) (q_n (g 22 j)))) (nI (min (q_n (g 22 i)) (q_n (g 22 j)))) (k + 1))) (zs z 4 0)) H := va_cast' hP ew9
        have hD : va_D A (mdW cA ad (gs g 22 (repl (g 22) (nI (max (q_n (g 22 i)) (q_n (g 22 j)))) (nI (min (q_n (g 22 i)) (q_n (g 22 j)))) (k + 1))) (zs z 4 0)) := va_castD hD ew9
        exact ih84 (k + 1) (by omega) (by omega) _ _ _ hP hD hS (lv_sub hl [1, 2, 3, 0] rfl)
      refine lv_iload hx hb dX6_join_84 (lv_at hl 3 rfl) ?_
      refine lv_aload_n hx hb dX6_join_86 rfl (lv_at hl 0 rfl) ?_
      refine q_get hx hb hT hown hK hP kw_X6 0 rfl rfl 0 (by decide) kf_X6_86 rfl (v := .int (nI (z 0))) rfl dX6_join_87 ?_
      refine lv_icmp_ge (tgt := 130) hx hb dX6_join_90 (by decide) (fun c_90 => ?_) (fun c_90 => ?_)
      · have c_90 := nI_le1 (a := z 0) (b := k) (by omega) (by omega) c_90
        refine lv_iconst (v := nI 0) hx hb dX6_join_130 (by decide +kernel) ?_
        refine lv_istore (lv' := [(7, .int (nI 0)), (0, .ref (ad 80)), (5, .int (nI (min (q_n (g 22 i)) (q_n (g 22 j))))), (6, .int (nI (max (q_n (g 22 i)) (q_n (g 22 j)))))]) hx hb dX6_join_131 hl (by decide) rfl (fun ls hl => ?_)
        have ew9 : (mdW cA ad (gs g 22 (repl (g 22) (nI (max (q_n (g 22 i)) (q_n (g 22 j)))) (nI (min (q_n (g 22 i)) (q_n (g 22 j)))) k)) (zs z 4 0)) = (mdW cA ad (gs (gs g 22 (repl (g 22) (nI (max (q_n (g 22 i)) (q_n (g 22 j)))) (nI (min (q_n (g 22 i)) (q_n (g 22 j)))) (z 0))) 23 (repl (g 23) (nI (max (q_n (g 22 i)) (q_n (g 22 j)))) (nI (min (q_n (g 22 i)) (q_n (g 22 j)))) 0)) (zs z 4 0)) := by first | with_reducible rfl | (first | rw [repl_i] | (rw [repl_0, show k = z 0 by omega]; rfl))
        have hP : va_P D vwCl (mdW cA ad (gs (gs g 22 (repl (g 22) (nI (max (q_n (g 22 i)) (q_n (g 22 j)))) (nI (min (q_n (g 22 i)) (q_n (g 22 j)))) (z 0))) 23 (repl (g 23) (nI (max (q_n (g 22 i)) (q_n (g 22 j)))) (nI (min (q_n (g 22 i)) (q_n (g 22 j)))) 0)) (zs z 4 0)) H := va_cast' hP ew9
        have hD : va_D A (mdW cA ad (gs (gs g 22 (repl (g 22) (nI (max (q_n (g 22 i)) (q_n (g 22 j)))) (nI (min (q_n (g 22 i)) (q_n (g 22 j)))) (z 0))) 23 (repl (g 23) (nI (max (q_n (g 22 i)) (q_n (g 22 j)))) (nI (min (q_n (g 22 i)) (q_n (g 22 j)))) 0)) (zs z 4 0)) := va_castD hD ew9
        exact zqL133 (z 2 + 1) 0 (by omega) (by omega) _ _ _ hP hD hS (lv_sub hl [1, 2, 3, 0] rfl)
      · have c_90 := nI_le0 (a := z 0) (b := k) (by omega) (by omega) c_90
        refine lv_aload_n hx hb dX6_join_93 rfl (lv_at hl 0 rfl) ?_
        refine q_get hx hb hT hown hK hP kw_X6 0 rfl rfl 22 (by decide) kf_X6_67 rfl (v := .ref (ad 22)) rfl dX6_join_94 ?_
        refine lv_iload hx hb dX6_join_97 (lv_at hl 3 rfl) ?_
        refine lv_aload_n hx hb dX6_join_99 rfl (lv_at hl 0 rfl) ?_
        refine q_get hx hb hT hown hK hP kw_X6 0 rfl rfl 22 (by decide) kf_X6_67 rfl (v := .ref (ad 22)) rfl dX6_join_100 ?_
        refine lv_iload hx hb dX6_join_103 (lv_at hl 3 rfl) ?_
        refine q_iald (f := repl (g 22) (nI (max (q_n (g 22 i)) (q_n (g 22 j)))) (nI (min (q_n (g 22 i)) (q_n (g 22 j)))) k) hx hb hK hP 20 0 rfl rfl (k) rfl (by omega) (by omega) dX6_join_105 ?_
        refine q_top (y := (g 22) k) (repl_k) ?_
        refine lv_iload hx hb dX6_join_106 (lv_at hl 2 rfl) ?_
        refine lv_icmp_ne (tgt := 116) hx hb dX6_join_108 (by decide) (fun c_108 => ?_) (fun c_108 => ?_)
        · refine lv_aload_n hx hb dX6_join_116 rfl (lv_at hl 0 rfl) ?_
          refine q_get hx hb hT hown hK hP kw_X6 0 rfl rfl 22 (by decide) kf_X6_67 rfl (v := .ref (ad 22)) rfl dX6_join_117 ?_
          refine lv_iload hx hb dX6_join_120 (lv_at hl 3 rfl) ?_
          refine q_iald (f := repl (g 22) (nI (max (q_n (g 22 i)) (q_n (g 22 j)))) (nI (min (q_n (g 22 i)) (q_n (g 22 j)))) k) hx hb hK hP 20 0 rfl rfl (k) rfl (by omega) (by omega) dX6_join_122 ?_
          refine q_top (y := (g 22) k) (repl_k) ?_
          refine q_top (y := (if (g 22) k = nI (max (q_n (g 22 i)) (q_n (g 22 j))) then nI (min (q_n (g 22 i)) (q_n (g 22 j))) else (g 22) k)) (by first | rw [if_pos c_108] | rw [if_neg c_108]) ?_
          exact zqJ123  (by omega) _ _ _ hP hD hS (lv_sub hl [0, 1, 2, 3] rfl)
        · refine lv_iload hx hb dX6_join_111 (lv_at hl 1 rfl) ?_
          refine lv_goto (tgt := 123) hx hb dX6_join_113 (by decide) ?_
          refine q_top (y := (if (g 22) k = nI (max (q_n (g 22 i)) (q_n (g 22 j))) then nI (min (q_n (g 22 i)) (q_n (g 22 j))) else (g 22) k)) (by first | rw [if_pos c_108] | rw [if_neg c_108]) ?_
          exact zqJ123  (by omega) _ _ _ hP hD hS (lv_sub hl [0, 1, 2, 3] rfl)
  have zqJ79 : ∀ (H : Heap) (locs : List Loc) (ls : Array Slot), va_P D vwCl (mdW cA ad g (zs z 4 0)) H → va_D A (mdW cA ad g (zs z 4 0)) → va_S A s.heap H locs → lv_has ls 8 [(0, .ref (ad 80)), (1, .int (nI i)), (2, .int (nI j)), (3, .int (nI (q_n (g 22 i)))), (4, .int (nI (q_n (g 22 j)))), (5, .int (nI (min (q_n (g 22 i)) (q_n (g 22 j)))))] → W p l e rm_X6_join s m args below meth c H locs 0 0 (q_GI D (nI (min (q_n (g 22 i)) (q_n (g 22 j)))) (mdW cA ad (gs (gs g 22 (repl (g 22) (nI (max (q_n (g 22 i)) (q_n (g 22 j)))) (nI (min (q_n (g 22 i)) (q_n (g 22 j)))) (z 0))) 23 (repl (g 23) (nI (max (q_n (g 22 i)) (q_n (g 22 j)))) (nI (min (q_n (g 22 i)) (q_n (g 22 j)))) (z 2))) (zs z 4 0)) A below args s) (F0 m 79 ls [.int (nI (max (q_n (g 22 i)) (q_n (g 22 j))))]) := by
    intro   H locs ls hP hD hS hl
    refine lv_istore (lv' := [(6, .int (nI (max (q_n (g 22 i)) (q_n (g 22 j))))), (0, .ref (ad 80)), (1, .int (nI i)), (2, .int (nI j)), (3, .int (nI (q_n (g 22 i)))), (4, .int (nI (q_n (g 22 j)))), (5, .int (nI (min (q_n (g 22 i)) (q_n (g 22 j)))))]) hx hb dX6_join_79 hl (by decide) rfl (fun ls hl => ?_)
    refine lv_iconst (v := nI 0) hx hb dX6_join_81 (by decide +kernel) ?_
    refine lv_istore (lv' := [(7, .int (nI 0)), (6, .int (nI (max (q_n (g 22 i)) (q_n (g 22 j))))), (0, .ref (ad 80)), (1, .int (nI i)), (2, .int (nI j)), (3, .int (nI (q_n (g 22 i)))), (4, .int (nI (q_n (g 22 j)))), (5, .int (nI (min (q_n (g 22 i)) (q_n (g 22 j)))))]) hx hb dX6_join_82 hl (by decide) rfl (fun ls hl => ?_)
    have ew9 : (mdW cA ad g (zs z 4 0)) = (mdW cA ad (gs g 22 (repl (g 22) (nI (max (q_n (g 22 i)) (q_n (g 22 j)))) (nI (min (q_n (g 22 i)) (q_n (g 22 j)))) 0)) (zs z 4 0)) := by first | with_reducible rfl | (first | (rw [repl_0]; rfl) | rw [repl_i])
    have hP : va_P D vwCl (mdW cA ad (gs g 22 (repl (g 22) (nI (max (q_n (g 22 i)) (q_n (g 22 j)))) (nI (min (q_n (g 22 i)) (q_n (g 22 j)))) 0)) (zs z 4 0)) H := va_cast' hP ew9
    have hD : va_D A (mdW cA ad (gs g 22 (repl (g 22) (nI (max (q_n (g 22 i)) (q_n (g 22 j)))) (nI (min (q_n (g 22 i)) (q_n (g 22 j)))) 0)) (zs z 4 0)) := va_castD hD ew9
    exact zqL84 (z 0 + 1) 0 (by omega) (by omega) _ _ _ hP hD hS (lv_sub hl [2, 7, 1, 0] rfl)
  have zqJ65 : ∀ (H : Heap) (locs : List Loc) (ls : Array Slot), va_P D vwCl (mdW cA ad g (zs z 4 0)) H → va_D A (mdW cA ad g (zs z 4 0)) → va_S A s.heap H locs → lv_has ls 8 [(0, .ref (ad 80)), (1, .int (nI i)), (2, .int (nI j)), (3, .int (nI (q_n (g 22 i)))), (4, .int (nI (q_n (g 22 j))))] → W p l e rm_X6_join s m args below meth c H locs 0 0 (q_GI D (nI (min (q_n (g 22 i)) (q_n (g 22 j)))) (mdW cA ad (gs (gs g 22 (repl (g 22) (nI (max (q_n (g 22 i)) (q_n (g 22 j)))) (nI (min (q_n (g 22 i)) (q_n (g 22 j)))) (z 0))) 23 (repl (g 23) (nI (max (q_n (g 22 i)) (q_n (g 22 j)))) (nI (min (q_n (g 22 i)) (q_n (g 22 j)))) (z 2))) (zs z 4 0)) A below args s) (F0 m 65 ls [.int (nI (min (q_n (g 22 i)) (q_n (g 22 j))))]) := by
    intro   H locs ls hP hD hS hl
    refine lv_istore (lv' := [(5, .int (nI (min (q_n (g 22 i)) (q_n (g 22 j))))), (0, .ref (ad 80)), (1, .int (nI i)), (2, .int (nI j)), (3, .int (nI (q_n (g 22 i)))), (4, .int (nI (q_n (g 22 j))))]) hx hb dX6_join_65 hl (by decide) rfl (fun ls hl => ?_)
    refine lv_iload_n hx hb dX6_join_67 rfl (lv_at hl 4 rfl) ?_
    refine lv_iload hx hb dX6_join_68 (lv_at hl 5 rfl) ?_
    refine lv_icmp_ge (tgt := 78) hx hb dX6_join_70 (by decide) (fun c_70 => ?_) (fun c_70 => ?_)
    · have c_70 := nI_le1 (a := q_n (g 22 j)) (b := q_n (g 22 i)) (by omega) (by omega) c_70
      refine lv_iload_n hx hb dX6_join_78 rfl (lv_at hl 4 rfl) ?_
      refine q_top (y := nI (max (q_n (g 22 i)) (q_n (g 22 j)))) (by first | rw [Nat.max_eq_left (by omega)] | rw [Nat.max_eq_right (by omega)]) ?_
      exact zqJ79   _ _ _ hP hD hS (lv_sub hl [1, 2, 3, 4, 5, 0] rfl)
    · have c_70 := nI_le0 (a := q_n (g 22 j)) (b := q_n (g 22 i)) (by omega) (by omega) c_70
      refine lv_iload hx hb dX6_join_73 (lv_at hl 5 rfl) ?_
      refine lv_goto (tgt := 79) hx hb dX6_join_75 (by decide) ?_
      refine q_top (y := nI (max (q_n (g 22 i)) (q_n (g 22 j)))) (by first | rw [Nat.max_eq_left (by omega)] | rw [Nat.max_eq_right (by omega)]) ?_
      exact zqJ79   _ _ _ hP hD hS (lv_sub hl [1, 2, 3, 4, 5, 0] rfl)
  refine lv_aload_n hx hb dX6_join_0 rfl (lv_at hl 0 rfl) ?_
  refine lv_iload_n hx hb dX6_join_1 rfl (lv_at hl 1 rfl) ?_
  refine lv_iload_n hx hb dX6_join_2 rfl (lv_at hl 2 rfl) ?_
  refine q_callIW (As := [.int (nI i), .int (nI j)]) (r := nI 1) (w1 := mdW cA ad g (zs z 4 0)) hx hb hml hown hT hK hP hD hS hA (c_X6_asksTwo l D cA ad g z i j (show i < (z 0) by omega) (show j < (z 0) by omega) (show (z 0) ≤ 16 by omega) (show ¬ i = j by omega)) k_X6_asksTwo kl_X6_136 (q0 := 0) rfl rfl rfl ((mdW_adr _ _ _ _).trans (mdW_adr _ _ _ _).symm) hl rfl rfl (Nat.le_of_ble_eq_true rfl) ⟨⟨rfl, rfl⟩, Nat.le_of_ble_eq_true rfl, Nat.le_of_ble_eq_true rfl⟩ ⟨Nat.zero_le _, Nat.zero_le _⟩ dX6_join_3 (fun H locs hP hD hS => ?_)
  refine lv_if_ne (tgt := 11) hx hb dX6_join_6 (by decide) (fun c_6 => ?_) (fun c_6 => ?_)
  · have c_6 := nI_eq0 (a := 1) (b := 0) (by omega) (by omega) c_6
    refine lv_aload_n hx hb dX6_join_11 rfl (lv_at hl 0 rfl) ?_
    refine lv_aload_n hx hb dX6_join_12 rfl (lv_at hl 0 rfl) ?_
    refine lv_iload_n hx hb dX6_join_13 rfl (lv_at hl 1 rfl) ?_
    refine lv_iload_n hx hb dX6_join_14 rfl (lv_at hl 2 rfl) ?_
    refine q_callIW (As := [.int (nI i), .int (nI j)]) (r := nI (rsN g (z 0) i j)) (w1 := mdW cA ad g (zs z 4 0)) hx hb hml hown hT hK hP hD hS hA (c_X6_reason l D cA ad g (zs z 4 0) i j (show i < (z 0) by omega) (show j < (z 0) by omega) (show (z 0) ≤ 16 by omega) hPo) k_X6_reason kl_X6_152 (q0 := 0) rfl rfl rfl ((mdW_adr _ _ _ _).trans (mdW_adr _ _ _ _).symm) hl rfl rfl (Nat.le_of_ble_eq_true rfl) ⟨⟨rfl, rfl⟩, Nat.le_of_ble_eq_true rfl, Nat.le_of_ble_eq_true rfl⟩ ⟨Nat.zero_le _, Nat.zero_le _⟩ dX6_join_15 (fun H locs hP hD hS => ?_)
    refine lv_if_le (tgt := 25) hx hb dX6_join_18 (by decide) (fun c_18 => ?_) (fun c_18 => ?_)
    · have c_18 := nI_le1 (a := rsN g (z 0) i j) (b := 0) (by omega) (by omega) c_18
      refine lv_iconst (v := nI 0) hx hb dX6_join_25 (by decide +kernel) ?_
      refine q_put (ty := .int) (ws1 := mdW cA ad g (zs z 4 0)) hx hb hT hown hK hP hD hS kw_X6 tyX6_ok nmX6 0 rfl rfl 27 (by decide) kf_X6_82 rfl rfl (by decide +kernel) rfl rfl (Nat.le_of_ble_eq_true rfl) rfl dX6_join_26 (fun H locs hP hD hS => ?_)
      refine lv_aload_n hx hb dX6_join_29 rfl (lv_at hl 0 rfl) ?_
      refine q_get hx hb hT hown hK hP kw_X6 0 rfl rfl 27 (by decide) kf_X6_82 rfl (v := .int (nI 0)) rfl dX6_join_30 ?_
      refine lv_if_le (tgt := 38) hx hb dX6_join_33 (by decide) (fun c_33 => ?_) (fun c_33 => ?_)
      · have c_33 := nI_le1 (a := 0) (b := 0) (by omega) (by omega) c_33
        refine lv_aload_n hx hb dX6_join_38 rfl (lv_at hl 0 rfl) ?_
        refine q_get hx hb hT hown hK hP kw_X6 0 rfl rfl 22 (by decide) kf_X6_67 rfl (v := .ref (ad 22)) rfl dX6_join_39 ?_
        refine lv_iload_n hx hb dX6_join_42 rfl (lv_at hl 1 rfl) ?_
        refine q_iald (f := g 22) hx hb hK hP 20 0 rfl rfl (i) rfl (by omega) (by omega) dX6_join_43 ?_
        refine q_top (y := nI (q_n (g 22 i))) ((hO i (by omega)).eq (by omega)) ?_
        refine lv_istore_n (lv' := [(3, .int (nI (q_n (g 22 i)))), (0, .ref (ad 80)), (1, .int (nI i)), (2, .int (nI j))]) hx hb dX6_join_44 rfl hl (by decide) rfl (fun ls hl => ?_)
        refine lv_aload_n hx hb dX6_join_45 rfl (lv_at hl 1 rfl) ?_
        refine q_get hx hb hT hown hK hP kw_X6 0 rfl rfl 22 (by decide) kf_X6_67 rfl (v := .ref (ad 22)) rfl dX6_join_46 ?_
        refine lv_iload_n hx hb dX6_join_49 rfl (lv_at hl 3 rfl) ?_
        refine q_iald (f := g 22) hx hb hK hP 20 0 rfl rfl (j) rfl (by omega) (by omega) dX6_join_50 ?_
        refine q_top (y := nI (q_n (g 22 j))) ((hO j (by omega)).eq (by omega)) ?_
        refine lv_istore (lv' := [(4, .int (nI (q_n (g 22 j)))), (3, .int (nI (q_n (g 22 i)))), (0, .ref (ad 80)), (1, .int (nI i)), (2, .int (nI j))]) hx hb dX6_join_51 hl (by decide) rfl (fun ls hl => ?_)
        refine lv_iload_n hx hb dX6_join_53 rfl (lv_at hl 1 rfl) ?_
        refine lv_iload hx hb dX6_join_54 (lv_at hl 0 rfl) ?_
        refine lv_icmp_ge (tgt := 63) hx hb dX6_join_56 (by decide) (fun c_56 => ?_) (fun c_56 => ?_)
        · have c_56 := nI_le1 (a := q_n (g 22 j)) (b := q_n (g 22 i)) (by omega) (by omega) c_56
          refine lv_iload hx hb dX6_join_63 (lv_at hl 0 rfl) ?_
          refine q_top (y := nI (min (q_n (g 22 i)) (q_n (g 22 j)))) (by first | rw [Nat.min_eq_right (by omega)] | rw [Nat.min_eq_left (by omega)]) ?_
          exact zqJ65   _ _ _ hP hD hS (lv_sub hl [2, 3, 4, 1, 0] rfl)
        · have c_56 := nI_le0 (a := q_n (g 22 j)) (b := q_n (g 22 i)) (by omega) (by omega) c_56
          refine lv_iload_n hx hb dX6_join_59 rfl (lv_at hl 1 rfl) ?_
          refine lv_goto (tgt := 65) hx hb dX6_join_60 (by decide) ?_
          refine q_top (y := nI (min (q_n (g 22 i)) (q_n (g 22 j)))) (by first | rw [Nat.min_eq_right (by omega)] | rw [Nat.min_eq_left (by omega)]) ?_
          exact zqJ65   _ _ _ hP hD hS (lv_sub hl [2, 3, 4, 1, 0] rfl)
      · have c_33 := nI_le0 (a := 0) (b := 0) (by omega) (by omega) c_33
        exfalso; omega
    · have c_18 := nI_le0 (a := rsN g (z 0) i j) (b := 0) (by omega) (by omega) c_18
      exfalso; omega
  · have c_6 := nI_eq1 (a := 1) (b := 0) (by omega) (by omega) c_6
    exfalso; omega
abbrev rm_X6_joinx : Room := { frames := 3, cells := 0, slots := 0, locals := 65 }
set_option maxRecDepth 100000 in
set_option maxHeartbeats 4000000 in
theorem c_X6_joinx (l : Launch) (D : va_G) (cA : ClassId) (ad : Nat → Nat) (g : Nat → Nat → Int32) (z : Nat → Nat) (x : Int32) (y : Int32) (hc : (z 0) ≤ 16) (h12 : ¬ (q_r x (z 0) ∧ q_r y (z 0))) : q_CI l yX6_join [Cond.code yX6_join cX6_join 8 (some .int)] rm_X6_joinx D cA [.ref (ad 80), .int x, .int y] (mdW cA ad g z) (nI 0) (mdW cA ad g (zs z 4 1)) := by
  refine q_startI RX6 (by decide +kernel) rfl (Nat.le_of_ble_eq_true rfl) ?_
  intro p e s m below meth c A args H locs ls hx hb hr hml hown hT hlk hP hK hD hA hS hl
  have hl : lv_has ls 8 [(0, .ref (ad 80)), (1, .int x), (2, .int y)] := hl
  refine lv_aload_n hx hb dX6_join_0 rfl (lv_at hl 0 rfl) ?_
  refine lv_iload_n hx hb dX6_join_1 rfl (lv_at hl 1 rfl) ?_
  refine lv_iload_n hx hb dX6_join_2 rfl (lv_at hl 2 rfl) ?_
  refine q_callIW (As := [.int x, .int y]) (r := nI 0) (w1 := mdW cA ad g (zs z 4 1)) hx hb hml hown hT hK hP hD hS hA (c_X6_asksTwox l D cA ad g z x y (show (z 0) ≤ 16 by omega) h12) k_X6_asksTwo kl_X6_136 (q0 := 0) rfl rfl rfl ((mdW_adr _ _ _ _).trans (mdW_adr _ _ _ _).symm) hl rfl rfl (Nat.le_of_ble_eq_true rfl) ⟨⟨rfl, rfl⟩, Nat.le_of_ble_eq_true rfl, Nat.le_of_ble_eq_true rfl⟩ ⟨Nat.zero_le _, Nat.zero_le _⟩ dX6_join_3 (fun H locs hP hD hS => ?_)
  refine lv_if_ne (tgt := 11) hx hb dX6_join_6 (by decide) (fun c_6 => ?_) (fun c_6 => ?_)
  · have c_6 := nI_eq0 (a := 0) (b := 0) (by omega) (by omega) c_6
    exfalso; omega
  · have c_6 := nI_eq1 (a := 0) (b := 0) (by omega) (by omega) c_6
    refine lv_iconst (v := nI 0) hx hb dX6_join_9 (by decide +kernel) ?_
    exact q_iret hx hb hr hlk (by rfl) hP hS dX6_join_10
abbrev rm_X6_joinx3 : Room := { frames := 3, cells := 0, slots := 0, locals := 65 }
set_option maxRecDepth 100000 in
set_option maxHeartbeats 4000000 in
theorem c_X6_joinx3 (l : Launch) (D : va_G) (cA : ClassId) (ad : Nat → Nat) (g : Nat → Nat → Int32) (z : Nat → Nat) (x : Int32) (y : Int32) (hc : (z 0) ≤ 16) (h1 : q_r x (z 0)) (h2 : q_r y (z 0)) (hne : x = y) : q_CI l yX6_join [Cond.code yX6_join cX6_join 8 (some .int)] rm_X6_joinx3 D cA [.ref (ad 80), .int x, .int y] (mdW cA ad g z) (nI 0) (mdW cA ad g (zs z 4 2)) := by
  refine q_startI RX6 (by decide +kernel) rfl (Nat.le_of_ble_eq_true rfl) ?_
  intro p e s m below meth c A args H locs ls hx hb hr hml hown hT hlk hP hK hD hA hS hl
  have hl : lv_has ls 8 [(0, .ref (ad 80)), (1, .int x), (2, .int y)] := hl
  refine lv_aload_n hx hb dX6_join_0 rfl (lv_at hl 0 rfl) ?_
  refine lv_iload_n hx hb dX6_join_1 rfl (lv_at hl 1 rfl) ?_
  refine lv_iload_n hx hb dX6_join_2 rfl (lv_at hl 2 rfl) ?_
  refine q_callIW (As := [.int x, .int y]) (r := nI 0) (w1 := mdW cA ad g (zs z 4 2)) hx hb hml hown hT hK hP hD hS hA (c_X6_asksTwox3 l D cA ad g z x y (show (z 0) ≤ 16 by omega) h1 h2 hne) k_X6_asksTwo kl_X6_136 (q0 := 0) rfl rfl rfl ((mdW_adr _ _ _ _).trans (mdW_adr _ _ _ _).symm) hl rfl rfl (Nat.le_of_ble_eq_true rfl) ⟨⟨rfl, rfl⟩, Nat.le_of_ble_eq_true rfl, Nat.le_of_ble_eq_true rfl⟩ ⟨Nat.zero_le _, Nat.zero_le _⟩ dX6_join_3 (fun H locs hP hD hS => ?_)
  refine lv_if_ne (tgt := 11) hx hb dX6_join_6 (by decide) (fun c_6 => ?_) (fun c_6 => ?_)
  · have c_6 := nI_eq0 (a := 0) (b := 0) (by omega) (by omega) c_6
    exfalso; omega
  · have c_6 := nI_eq1 (a := 0) (b := 0) (by omega) (by omega) c_6
    refine lv_iconst (v := nI 0) hx hb dX6_join_9 (by decide +kernel) ?_
    exact q_iret hx hb hr hlk (by rfl) hP hS dX6_join_10
abbrev rm_X6_joinx4 : Room := { frames := 4, cells := 0, slots := 0, locals := 93 }
set_option maxRecDepth 100000 in
set_option maxHeartbeats 4000000 in
theorem c_X6_joinx4 (l : Launch) (D : va_G) (cA : ClassId) (ad : Nat → Nat) (g : Nat → Nat → Int32) (z : Nat → Nat) (i : Nat) (j : Nat) (hi : i < (z 0)) (hj : j < (z 0)) (hc : (z 0) ≤ 16) (hne : ¬ i = j) (hPo : ∀ k, k < (z 0) → (g 3) k = (-1) ∨ q_r ((g 3) k) 8) (hra : ¬ rsN g (z 0) i j = 0) : q_CI l yX6_join [Cond.code yX6_join cX6_join 8 (some .int)] rm_X6_joinx4 D cA [.ref (ad 80), .int (nI i), .int (nI j)] (mdW cA ad g z) (nI 0) (mdW cA ad g (zs z 4 3)) := by
  refine q_startI RX6 (by decide +kernel) rfl (Nat.le_of_ble_eq_true rfl) ?_
  intro p e s m below meth c A args H locs ls hx hb hr hml hown hT hlk hP hK hD hA hS hl
  have hl : lv_has ls 8 [(0, .ref (ad 80)), (1, .int (nI i)), (2, .int (nI j))] := hl
  have hrl := rsN_le g (z 0) i j
  refine lv_aload_n hx hb dX6_join_0 rfl (lv_at hl 0 rfl) ?_
  refine lv_iload_n hx hb dX6_join_1 rfl (lv_at hl 1 rfl) ?_
  refine lv_iload_n hx hb dX6_join_2 rfl (lv_at hl 2 rfl) ?_
  refine q_callIW (As := [.int (nI i), .int (nI j)]) (r := nI 1) (w1 := mdW cA ad g (zs z 4 0)) hx hb hml hown hT hK hP hD hS hA (c_X6_asksTwo l D cA ad g z i j (show i < (z 0) by omega) (show j < (z 0) by omega) (show (z 0) ≤ 16 by omega) (show ¬ i = j by omega)) k_X6_asksTwo kl_X6_136 (q0 := 0) rfl rfl rfl ((mdW_adr _ _ _ _).trans (mdW_adr _ _ _ _).symm) hl rfl rfl (Nat.le_of_ble_eq_true rfl) ⟨⟨rfl, rfl⟩, Nat.le_of_ble_eq_true rfl, Nat.le_of_ble_eq_true rfl⟩ ⟨Nat.zero_le _, Nat.zero_le _⟩ dX6_join_3 (fun H locs hP hD hS => ?_)
  refine lv_if_ne (tgt := 11) hx hb dX6_join_6 (by decide) (fun c_6 => ?_) (fun c_6 => ?_)
  · have c_6 := nI_eq0 (a := 1) (b := 0) (by omega) (by omega) c_6
    refine lv_aload_n hx hb dX6_join_11 rfl (lv_at hl 0 rfl) ?_
    refine lv_aload_n hx hb dX6_join_12 rfl (lv_at hl 0 rfl) ?_
    refine lv_iload_n hx hb dX6_join_13 rfl (lv_at hl 1 rfl) ?_
    refine lv_iload_n hx hb dX6_join_14 rfl (lv_at hl 2 rfl) ?_
    refine q_callIW (As := [.int (nI i), .int (nI j)]) (r := nI (rsN g (z 0) i j)) (w1 := mdW cA ad g (zs z 4 0)) hx hb hml hown hT hK hP hD hS hA (c_X6_reason l D cA ad g (zs z 4 0) i j (show i < (z 0) by omega) (show j < (z 0) by omega) (show (z 0) ≤ 16 by omega) hPo) k_X6_reason kl_X6_152 (q0 := 0) rfl rfl rfl ((mdW_adr _ _ _ _).trans (mdW_adr _ _ _ _).symm) hl rfl rfl (Nat.le_of_ble_eq_true rfl) ⟨⟨rfl, rfl⟩, Nat.le_of_ble_eq_true rfl, Nat.le_of_ble_eq_true rfl⟩ ⟨Nat.zero_le _, Nat.zero_le _⟩ dX6_join_15 (fun H locs hP hD hS => ?_)
    refine lv_if_le (tgt := 25) hx hb dX6_join_18 (by decide) (fun c_18 => ?_) (fun c_18 => ?_)
    · have c_18 := nI_le1 (a := rsN g (z 0) i j) (b := 0) (by omega) (by omega) c_18
      exfalso; omega
    · have c_18 := nI_le0 (a := rsN g (z 0) i j) (b := 0) (by omega) (by omega) c_18
      refine lv_iconst (v := nI 3) hx hb dX6_join_21 (by decide +kernel) ?_
      refine lv_goto (tgt := 26) hx hb dX6_join_22 (by decide) ?_
      refine q_put (ty := .int) (ws1 := mdW cA ad g (zs z 4 3)) hx hb hT hown hK hP hD hS kw_X6 tyX6_ok nmX6 0 rfl rfl 27 (by decide) kf_X6_82 rfl rfl (by decide +kernel) rfl rfl (Nat.le_of_ble_eq_true rfl) rfl dX6_join_26 (fun H locs hP hD hS => ?_)
      refine lv_aload_n hx hb dX6_join_29 rfl (lv_at hl 0 rfl) ?_
      refine q_get hx hb hT hown hK hP kw_X6 0 rfl rfl 27 (by decide) kf_X6_82 rfl (v := .int (nI 3)) rfl dX6_join_30 ?_
      refine lv_if_le (tgt := 38) hx hb dX6_join_33 (by decide) (fun c_33 => ?_) (fun c_33 => ?_)
      · have c_33 := nI_le1 (a := 3) (b := 0) (by omega) (by omega) c_33
        exfalso; omega
      · have c_33 := nI_le0 (a := 3) (b := 0) (by omega) (by omega) c_33
        refine lv_iconst (v := nI 0) hx hb dX6_join_36 (by decide +kernel) ?_
        exact q_iret hx hb hr hlk (by rfl) hP hS dX6_join_37
  · have c_6 := nI_eq1 (a := 1) (b := 0) (by omega) (by omega) c_6
    exfalso; omega
abbrev rm_X6_split : Room := { frames := 2, cells := 0, slots := 0, locals := 43 }
set_option maxRecDepth 100000 in
set_option maxHeartbeats 4000000 in
theorem c_X6_split (l : Launch) (D : va_G) (cA : ClassId) (ad : Nat → Nat) (g : Nat → Nat → Int32) (z : Nat → Nat) (k : Nat) (hk : k < (z 0)) (hc : (z 0) ≤ 16) (hcn : ¬ cntN (g 22) (g 22 k) (z 0) = 1) (hz40 : (z 2) < 40) : q_CI l yX6_split [Cond.code yX6_split cX6_split 2 (some .int)] rm_X6_split D cA [.ref (ad 80), .int (nI k)] (mdW cA ad g z) (nI (z 2)) (mdW cA ad (gs (gs g 22 (upd (g 22) k (nI (z 2)))) 23 (upd (g 23) (z 2) (nI (z 2)))) (zs (zs z 2 ((z 2) + 1)) 4 0)) := by
  refine q_startI RX6 (by decide +kernel) rfl (Nat.le_of_ble_eq_true rfl) ?_
  intro p e s m below meth c A args H locs ls hx hb hr hml hown hT hlk hP hK hD hA hS hl
  have hl : lv_has ls 2 [(0, .ref (ad 80)), (1, .int (nI k))] := hl
  have hcl := cntN_le (g 22) (g 22 k) (z 0)
  refine lv_aload_n hx hb dX6_split_0 rfl (lv_at hl 0 rfl) ?_
  refine lv_aload_n hx hb dX6_split_1 rfl (lv_at hl 0 rfl) ?_
  refine lv_iload_n hx hb dX6_split_2 rfl (lv_at hl 1 rfl) ?_
  refine q_callIW (As := [.int (nI k)]) (r := q_b (mB (nI k) (z 0))) (w1 := mdW cA ad g z) hx hb hml hown hT hK hP hD hS hA (c_X6_isMention l D cA ad g z (nI k) (show (z 0) ≤ 16 by omega)) k_X6_isMention kl_X6_111 (q0 := 0) rfl rfl rfl ((mdW_adr _ _ _ _).trans (mdW_adr _ _ _ _).symm) hl rfl rfl (Nat.le_of_ble_eq_true rfl) ⟨⟨rfl, rfl⟩, Nat.le_of_ble_eq_true rfl, Nat.le_of_ble_eq_true rfl⟩ ⟨Nat.zero_le _, Nat.zero_le _⟩ dX6_split_3 (fun H locs hP hD hS => ?_)
  refine lv_if_ne (tgt := 13) hx hb dX6_split_6 (by decide) (fun c_6 => ?_) (fun c_6 => ?_)
  · have c_6 := q_b0n c_6
    refine lv_aload_n hx hb dX6_split_13 rfl (lv_at hl 0 rfl) ?_
    refine lv_aload_n hx hb dX6_split_14 rfl (lv_at hl 0 rfl) ?_
    refine q_get hx hb hT hown hK hP kw_X6 0 rfl rfl 22 (by decide) kf_X6_67 rfl (v := .ref (ad 22)) rfl dX6_split_15 ?_
    refine lv_iload_n hx hb dX6_split_18 rfl (lv_at hl 1 rfl) ?_
    refine q_iald (f := g 22) hx hb hK hP 20 0 rfl rfl (k) rfl (by omega) (by omega) dX6_split_19 ?_
    refine q_callIW (As := [.int (g 22 k)]) (r := nI (cntN (g 22) (g 22 k) (z 0))) (w1 := mdW cA ad g z) hx hb hml hown hT hK hP hD hS hA (c_X6_sizeOf l D cA ad g z (g 22 k) (show (z 0) ≤ 16 by omega)) k_X6_sizeOf kl_X6_155 (q0 := 0) rfl rfl rfl ((mdW_adr _ _ _ _).trans (mdW_adr _ _ _ _).symm) hl rfl rfl (Nat.le_of_ble_eq_true rfl) ⟨⟨rfl, rfl⟩, Nat.le_of_ble_eq_true rfl, Nat.le_of_ble_eq_true rfl⟩ ⟨Nat.zero_le _, Nat.zero_le _⟩ dX6_split_20 (fun H locs hP hD hS => ?_)
    refine lv_iconst (v := nI 1) hx hb dX6_split_23 (by decide +kernel) ?_
    refine lv_icmp_eq (tgt := 36) hx hb dX6_split_24 (by decide) (fun c_24 => ?_) (fun c_24 => ?_)
    · have c_24 := nI_eq1 (a := cntN (g 22) (g 22 k) (z 0)) (b := 1) (by omega) (by omega) c_24
      exfalso; omega
    · have c_24 := nI_eq0 (a := cntN (g 22) (g 22 k) (z 0)) (b := 1) (by omega) (by omega) c_24
      refine lv_aload_n hx hb dX6_split_27 rfl (lv_at hl 0 rfl) ?_
      refine q_get hx hb hT hown hK hP kw_X6 0 rfl rfl 21 (by decide) kf_X6_93 rfl (v := .int (nI (z 2))) rfl dX6_split_28 ?_
      refine lv_bipush (v := nI 40) hx hb dX6_split_31 (by decide +kernel) ?_
      refine lv_icmp_ne (tgt := 40) hx hb dX6_split_33 (by decide) (fun c_33 => ?_) (fun c_33 => ?_)
      · have c_33 := nI_eq0 (a := z 2) (b := 40) (by omega) (by omega) c_33
        refine lv_iconst (v := nI 0) hx hb dX6_split_40 (by decide +kernel) ?_
        refine q_put (ty := .int) (ws1 := mdW cA ad g (zs z 4 0)) hx hb hT hown hK hP hD hS kw_X6 tyX6_ok nmX6 0 rfl rfl 27 (by decide) kf_X6_82 rfl rfl (by decide +kernel) rfl rfl (Nat.le_of_ble_eq_true rfl) rfl dX6_split_41 (fun H locs hP hD hS => ?_)
        refine lv_aload_n hx hb dX6_split_44 rfl (lv_at hl 0 rfl) ?_
        refine q_get hx hb hT hown hK hP kw_X6 0 rfl rfl 27 (by decide) kf_X6_82 rfl (v := .int (nI 0)) rfl dX6_split_45 ?_
        refine lv_if_le (tgt := 55) hx hb dX6_split_48 (by decide) (fun c_48 => ?_) (fun c_48 => ?_)
        · have c_48 := nI_le1 (a := 0) (b := 0) (by omega) (by omega) c_48
          refine lv_aload_n hx hb dX6_split_55 rfl (lv_at hl 0 rfl) ?_
          refine lv_iload_n hx hb dX6_split_56 rfl (lv_at hl 1 rfl) ?_
          refine q_callIW (As := [.int (nI k)]) (r := nI (z 2)) (w1 := mdW cA ad (gs (gs g 22 (upd (g 22) k (nI (z 2)))) 23 (upd (g 23) (z 2) (nI (z 2)))) (zs (zs z 2 ((z 2) + 1)) 4 0)) hx hb hml hown hT hK hP hD hS hA (c_X6_adds l D cA ad g (zs z 4 0) k (show k < 16 by omega) (show (z 2) < 40 by omega)) k_X6_adds kl_X6_100 (q0 := 0) rfl rfl rfl ((mdW_adr _ _ _ _).trans (mdW_adr _ _ _ _).symm) hl rfl rfl (Nat.le_of_ble_eq_true rfl) ⟨⟨rfl, rfl⟩, Nat.le_of_ble_eq_true rfl, Nat.le_of_ble_eq_true rfl⟩ ⟨Nat.zero_le _, Nat.zero_le _⟩ dX6_split_57 (fun H locs hP hD hS => ?_)
          obtain ⟨nF57_22, enF57_22⟩ : ∃ y : Nat → Int32, y = upd (g 22) k (nI (z 2)) := ⟨_, rfl⟩
          have hP : va_P D vwCl (mdW cA ad (gs (gs g 22 nF57_22) 23 (upd (g 23) (z 2) (nI (z 2)))) (zs (zs z 2 ((z 2) + 1)) 4 0)) H := by rw [enF57_22]; exact hP
          have hD : va_D A (mdW cA ad (gs (gs g 22 nF57_22) 23 (upd (g 23) (z 2) (nI (z 2)))) (zs (zs z 2 ((z 2) + 1)) 4 0)) := by rw [enF57_22]; exact hD
          obtain ⟨nF57_23, enF57_23⟩ : ∃ y : Nat → Int32, y = upd (g 23) (z 2) (nI (z 2)) := ⟨_, rfl⟩
          have hP : va_P D vwCl (mdW cA ad (gs (gs g 22 nF57_22) 23 nF57_23) (zs (zs z 2 ((z 2) + 1)) 4 0)) H := by rw [enF57_23]; exact hP
          have hD : va_D A (mdW cA ad (gs (gs g 22 nF57_22) 23 nF57_23) (zs (zs z 2 ((z 2) + 1)) 4 0)) := by rw [enF57_23]; exact hD
          rw [enF57_23] at hP hD
          rw [enF57_22] at hP hD
          exact q_iret hx hb hr hlk (by rfl) hP hS dX6_split_60
        · have c_48 := nI_le0 (a := 0) (b := 0) (by omega) (by omega) c_48
          exfalso; omega
      · have c_33 := nI_eq1 (a := z 2) (b := 40) (by omega) (by omega) c_33
        exfalso; omega
  · have c_6 := q_b0e c_6
    exact absurd c_6 (mB_F (q_r_nI (by omega)) (by omega))
abbrev rm_X6_splitx : Room := { frames := 2, cells := 0, slots := 0, locals := 43 }
set_option maxRecDepth 100000 in
set_option maxHeartbeats 4000000 in
theorem c_X6_splitx (l : Launch) (D : va_G) (cA : ClassId) (ad : Nat → Nat) (g : Nat → Nat → Int32) (z : Nat → Nat) (w : Int32) (hw : ¬ q_r w (z 0)) (hc : (z 0) ≤ 16) : q_CI l yX6_split [Cond.code yX6_split cX6_split 2 (some .int)] rm_X6_splitx D cA [.ref (ad 80), .int w] (mdW cA ad g z) (nI 0) (mdW cA ad g (zs z 4 1)) := by
  refine q_startI RX6 (by decide +kernel) rfl (Nat.le_of_ble_eq_true rfl) ?_
  intro p e s m below meth c A args H locs ls hx hb hr hml hown hT hlk hP hK hD hA hS hl
  have hl : lv_has ls 2 [(0, .ref (ad 80)), (1, .int w)] := hl
  refine lv_aload_n hx hb dX6_split_0 rfl (lv_at hl 0 rfl) ?_
  refine lv_aload_n hx hb dX6_split_1 rfl (lv_at hl 0 rfl) ?_
  refine lv_iload_n hx hb dX6_split_2 rfl (lv_at hl 1 rfl) ?_
  refine q_callIW (As := [.int w]) (r := q_b (mB w (z 0))) (w1 := mdW cA ad g z) hx hb hml hown hT hK hP hD hS hA (c_X6_isMention l D cA ad g z w (show (z 0) ≤ 16 by omega)) k_X6_isMention kl_X6_111 (q0 := 0) rfl rfl rfl ((mdW_adr _ _ _ _).trans (mdW_adr _ _ _ _).symm) hl rfl rfl (Nat.le_of_ble_eq_true rfl) ⟨⟨rfl, rfl⟩, Nat.le_of_ble_eq_true rfl, Nat.le_of_ble_eq_true rfl⟩ ⟨Nat.zero_le _, Nat.zero_le _⟩ dX6_split_3 (fun H locs hP hD hS => ?_)
  refine lv_if_ne (tgt := 13) hx hb dX6_split_6 (by decide) (fun c_6 => ?_) (fun c_6 => ?_)
  · have c_6 := q_b0n c_6
    exact absurd c_6 (mB_T hw (by omega))
  · have c_6 := q_b0e c_6
    refine lv_iconst (v := nI 1) hx hb dX6_split_9 (by decide +kernel) ?_
    refine lv_goto (tgt := 41) hx hb dX6_split_10 (by decide) ?_
    refine q_put (ty := .int) (ws1 := mdW cA ad g (zs z 4 1)) hx hb hT hown hK hP hD hS kw_X6 tyX6_ok nmX6 0 rfl rfl 27 (by decide) kf_X6_82 rfl rfl (by decide +kernel) rfl rfl (Nat.le_of_ble_eq_true rfl) rfl dX6_split_41 (fun H locs hP hD hS => ?_)
    refine lv_aload_n hx hb dX6_split_44 rfl (lv_at hl 0 rfl) ?_
    refine q_get hx hb hT hown hK hP kw_X6 0 rfl rfl 27 (by decide) kf_X6_82 rfl (v := .int (nI 1)) rfl dX6_split_45 ?_
    refine lv_if_le (tgt := 55) hx hb dX6_split_48 (by decide) (fun c_48 => ?_) (fun c_48 => ?_)
    · have c_48 := nI_le1 (a := 1) (b := 0) (by omega) (by omega) c_48
      exfalso; omega
    · have c_48 := nI_le0 (a := 1) (b := 0) (by omega) (by omega) c_48
      refine lv_iconst (v := nI 0) hx hb dX6_split_51 (by decide +kernel) ?_
      refine lv_goto (tgt := 60) hx hb dX6_split_52 (by decide) ?_
      exact q_iret hx hb hr hlk (by rfl) hP hS dX6_split_60
abbrev rm_X6_splitx2 : Room := { frames := 2, cells := 0, slots := 0, locals := 43 }
set_option maxRecDepth 100000 in
set_option maxHeartbeats 4000000 in
theorem c_X6_splitx2 (l : Launch) (D : va_G) (cA : ClassId) (ad : Nat → Nat) (g : Nat → Nat → Int32) (z : Nat → Nat) (k : Nat) (hk : k < (z 0)) (hc : (z 0) ≤ 16) (hcn : cntN (g 22) (g 22 k) (z 0) = 1 ∨ (z 2) = 40) (hm9 : (z 2) ≤ 40) : q_CI l yX6_split [Cond.code yX6_split cX6_split 2 (some .int)] rm_X6_splitx2 D cA [.ref (ad 80), .int (nI k)] (mdW cA ad g z) (nI 0) (mdW cA ad g (zs z 4 2)) := by
  refine q_startI RX6 (by decide +kernel) rfl (Nat.le_of_ble_eq_true rfl) ?_
  intro p e s m below meth c A args H locs ls hx hb hr hml hown hT hlk hP hK hD hA hS hl
  have hl : lv_has ls 2 [(0, .ref (ad 80)), (1, .int (nI k))] := hl
  have hcl := cntN_le (g 22) (g 22 k) (z 0)
  refine lv_aload_n hx hb dX6_split_0 rfl (lv_at hl 0 rfl) ?_
  refine lv_aload_n hx hb dX6_split_1 rfl (lv_at hl 0 rfl) ?_
  refine lv_iload_n hx hb dX6_split_2 rfl (lv_at hl 1 rfl) ?_
  refine q_callIW (As := [.int (nI k)]) (r := q_b (mB (nI k) (z 0))) (w1 := mdW cA ad g z) hx hb hml hown hT hK hP hD hS hA (c_X6_isMention l D cA ad g z (nI k) (show (z 0) ≤ 16 by omega)) k_X6_isMention kl_X6_111 (q0 := 0) rfl rfl rfl ((mdW_adr _ _ _ _).trans (mdW_adr _ _ _ _).symm) hl rfl rfl (Nat.le_of_ble_eq_true rfl) ⟨⟨rfl, rfl⟩, Nat.le_of_ble_eq_true rfl, Nat.le_of_ble_eq_true rfl⟩ ⟨Nat.zero_le _, Nat.zero_le _⟩ dX6_split_3 (fun H locs hP hD hS => ?_)
  refine lv_if_ne (tgt := 13) hx hb dX6_split_6 (by decide) (fun c_6 => ?_) (fun c_6 => ?_)
  · have c_6 := q_b0n c_6
    refine lv_aload_n hx hb dX6_split_13 rfl (lv_at hl 0 rfl) ?_
    refine lv_aload_n hx hb dX6_split_14 rfl (lv_at hl 0 rfl) ?_
    refine q_get hx hb hT hown hK hP kw_X6 0 rfl rfl 22 (by decide) kf_X6_67 rfl (v := .ref (ad 22)) rfl dX6_split_15 ?_
    refine lv_iload_n hx hb dX6_split_18 rfl (lv_at hl 1 rfl) ?_
    refine q_iald (f := g 22) hx hb hK hP 20 0 rfl rfl (k) rfl (by omega) (by omega) dX6_split_19 ?_
    refine q_callIW (As := [.int (g 22 k)]) (r := nI (cntN (g 22) (g 22 k) (z 0))) (w1 := mdW cA ad g z) hx hb hml hown hT hK hP hD hS hA (c_X6_sizeOf l D cA ad g z (g 22 k) (show (z 0) ≤ 16 by omega)) k_X6_sizeOf kl_X6_155 (q0 := 0) rfl rfl rfl ((mdW_adr _ _ _ _).trans (mdW_adr _ _ _ _).symm) hl rfl rfl (Nat.le_of_ble_eq_true rfl) ⟨⟨rfl, rfl⟩, Nat.le_of_ble_eq_true rfl, Nat.le_of_ble_eq_true rfl⟩ ⟨Nat.zero_le _, Nat.zero_le _⟩ dX6_split_20 (fun H locs hP hD hS => ?_)
    refine lv_iconst (v := nI 1) hx hb dX6_split_23 (by decide +kernel) ?_
    refine lv_icmp_eq (tgt := 36) hx hb dX6_split_24 (by decide) (fun c_24 => ?_) (fun c_24 => ?_)
    · have c_24 := nI_eq1 (a := cntN (g 22) (g 22 k) (z 0)) (b := 1) (by omega) (by omega) c_24
      refine lv_iconst (v := nI 2) hx hb dX6_split_36 (by decide +kernel) ?_
      refine lv_goto (tgt := 41) hx hb dX6_split_37 (by decide) ?_
      refine q_put (ty := .int) (ws1 := mdW cA ad g (zs z 4 2)) hx hb hT hown hK hP hD hS kw_X6 tyX6_ok nmX6 0 rfl rfl 27 (by decide) kf_X6_82 rfl rfl (by decide +kernel) rfl rfl (Nat.le_of_ble_eq_true rfl) rfl dX6_split_41 (fun H locs hP hD hS => ?_)
      refine lv_aload_n hx hb dX6_split_44 rfl (lv_at hl 0 rfl) ?_
      refine q_get hx hb hT hown hK hP kw_X6 0 rfl rfl 27 (by decide) kf_X6_82 rfl (v := .int (nI 2)) rfl dX6_split_45 ?_
      refine lv_if_le (tgt := 55) hx hb dX6_split_48 (by decide) (fun c_48 => ?_) (fun c_48 => ?_)
      · have c_48 := nI_le1 (a := 2) (b := 0) (by omega) (by omega) c_48
        exfalso; omega
      · have c_48 := nI_le0 (a := 2) (b := 0) (by omega) (by omega) c_48
        refine lv_iconst (v := nI 0) hx hb dX6_split_51 (by decide +kernel) ?_
        refine lv_goto (tgt := 60) hx hb dX6_split_52 (by decide) ?_
        exact q_iret hx hb hr hlk (by rfl) hP hS dX6_split_60
    · have c_24 := nI_eq0 (a := cntN (g 22) (g 22 k) (z 0)) (b := 1) (by omega) (by omega) c_24
      refine lv_aload_n hx hb dX6_split_27 rfl (lv_at hl 0 rfl) ?_
      refine q_get hx hb hT hown hK hP kw_X6 0 rfl rfl 21 (by decide) kf_X6_93 rfl (v := .int (nI (z 2))) rfl dX6_split_28 ?_
      refine lv_bipush (v := nI 40) hx hb dX6_split_31 (by decide +kernel) ?_
      refine lv_icmp_ne (tgt := 40) hx hb dX6_split_33 (by decide) (fun c_33 => ?_) (fun c_33 => ?_)
      · have c_33 := nI_eq0 (a := z 2) (b := 40) (by omega) (by omega) c_33
        exfalso; omega
      · have c_33 := nI_eq1 (a := z 2) (b := 40) (by omega) (by omega) c_33
        refine lv_iconst (v := nI 2) hx hb dX6_split_36 (by decide +kernel) ?_
        refine lv_goto (tgt := 41) hx hb dX6_split_37 (by decide) ?_
        refine q_put (ty := .int) (ws1 := mdW cA ad g (zs z 4 2)) hx hb hT hown hK hP hD hS kw_X6 tyX6_ok nmX6 0 rfl rfl 27 (by decide) kf_X6_82 rfl rfl (by decide +kernel) rfl rfl (Nat.le_of_ble_eq_true rfl) rfl dX6_split_41 (fun H locs hP hD hS => ?_)
        refine lv_aload_n hx hb dX6_split_44 rfl (lv_at hl 0 rfl) ?_
        refine q_get hx hb hT hown hK hP kw_X6 0 rfl rfl 27 (by decide) kf_X6_82 rfl (v := .int (nI 2)) rfl dX6_split_45 ?_
        refine lv_if_le (tgt := 55) hx hb dX6_split_48 (by decide) (fun c_48 => ?_) (fun c_48 => ?_)
        · have c_48 := nI_le1 (a := 2) (b := 0) (by omega) (by omega) c_48
          exfalso; omega
        · have c_48 := nI_le0 (a := 2) (b := 0) (by omega) (by omega) c_48
          refine lv_iconst (v := nI 0) hx hb dX6_split_51 (by decide +kernel) ?_
          refine lv_goto (tgt := 60) hx hb dX6_split_52 (by decide) ?_
          exact q_iret hx hb hr hlk (by rfl) hP hS dX6_split_60
  · have c_6 := q_b0e c_6
    exact absurd c_6 (mB_F (q_r_nI (by omega)) (by omega))
abbrev rm_X6_person : Room := { frames := 2, cells := 0, slots := 0, locals := 43 }
set_option maxRecDepth 100000 in
set_option maxHeartbeats 4000000 in
theorem c_X6_person (l : Launch) (D : va_G) (cA : ClassId) (ad : Nat → Nat) (g : Nat → Nat → Int32) (z : Nat → Nat) (k : Nat) (hk : k < (z 0)) (hc : (z 0) ≤ 16) : q_CI l yX6_person [Cond.code yX6_person cX6_person 2 (some .int)] rm_X6_person D cA [.ref (ad 80), .int (nI k)] (mdW cA ad g z) ((g 22) k) (mdW cA ad g (zs z 4 0)) := by
  refine q_startI RX6 (by decide +kernel) rfl (Nat.le_of_ble_eq_true rfl) ?_
  intro p e s m below meth c A args H locs ls hx hb hr hml hown hT hlk hP hK hD hA hS hl
  have hl : lv_has ls 2 [(0, .ref (ad 80)), (1, .int (nI k))] := hl
  refine lv_aload_n hx hb dX6_person_0 rfl (lv_at hl 0 rfl) ?_
  refine lv_aload_n hx hb dX6_person_1 rfl (lv_at hl 0 rfl) ?_
  refine lv_iload_n hx hb dX6_person_2 rfl (lv_at hl 1 rfl) ?_
  refine q_callIW (As := [.int (nI k)]) (r := q_b (mB (nI k) (z 0))) (w1 := mdW cA ad g z) hx hb hml hown hT hK hP hD hS hA (c_X6_isMention l D cA ad g z (nI k) (show (z 0) ≤ 16 by omega)) k_X6_isMention kl_X6_111 (q0 := 0) rfl rfl rfl ((mdW_adr _ _ _ _).trans (mdW_adr _ _ _ _).symm) hl rfl rfl (Nat.le_of_ble_eq_true rfl) ⟨⟨rfl, rfl⟩, Nat.le_of_ble_eq_true rfl, Nat.le_of_ble_eq_true rfl⟩ ⟨Nat.zero_le _, Nat.zero_le _⟩ dX6_person_3 (fun H locs hP hD hS => ?_)
  refine lv_if_eq (tgt := 13) hx hb dX6_person_6 (by decide) (fun c_6 => ?_) (fun c_6 => ?_)
  · have c_6 := q_b0e c_6
    exact absurd c_6 (mB_F (q_r_nI (by omega)) (by omega))
  · have c_6 := q_b0n c_6
    refine lv_iconst (v := nI 0) hx hb dX6_person_9 (by decide +kernel) ?_
    refine lv_goto (tgt := 14) hx hb dX6_person_10 (by decide) ?_
    refine q_put (ty := .int) (ws1 := mdW cA ad g (zs z 4 0)) hx hb hT hown hK hP hD hS kw_X6 tyX6_ok nmX6 0 rfl rfl 27 (by decide) kf_X6_82 rfl rfl (by decide +kernel) rfl rfl (Nat.le_of_ble_eq_true rfl) rfl dX6_person_14 (fun H locs hP hD hS => ?_)
    refine lv_aload_n hx hb dX6_person_17 rfl (lv_at hl 0 rfl) ?_
    refine q_get hx hb hT hown hK hP kw_X6 0 rfl rfl 27 (by decide) kf_X6_82 rfl (v := .int (nI 0)) rfl dX6_person_18 ?_
    refine lv_if_le (tgt := 28) hx hb dX6_person_21 (by decide) (fun c_21 => ?_) (fun c_21 => ?_)
    · have c_21 := nI_le1 (a := 0) (b := 0) (by omega) (by omega) c_21
      refine lv_aload_n hx hb dX6_person_28 rfl (lv_at hl 0 rfl) ?_
      refine q_get hx hb hT hown hK hP kw_X6 0 rfl rfl 22 (by decide) kf_X6_67 rfl (v := .ref (ad 22)) rfl dX6_person_29 ?_
      refine lv_iload_n hx hb dX6_person_32 rfl (lv_at hl 1 rfl) ?_
      refine q_iald (f := g 22) hx hb hK hP 20 0 rfl rfl (k) rfl (by omega) (by omega) dX6_person_33 ?_
      exact q_iret hx hb hr hlk (by rfl) hP hS dX6_person_34
    · have c_21 := nI_le0 (a := 0) (b := 0) (by omega) (by omega) c_21
      exfalso; omega
abbrev rm_X6_personx : Room := { frames := 2, cells := 0, slots := 0, locals := 43 }
set_option maxRecDepth 100000 in
set_option maxHeartbeats 4000000 in
theorem c_X6_personx (l : Launch) (D : va_G) (cA : ClassId) (ad : Nat → Nat) (g : Nat → Nat → Int32) (z : Nat → Nat) (w : Int32) (hw : ¬ q_r w (z 0)) (hc : (z 0) ≤ 16) : q_CI l yX6_person [Cond.code yX6_person cX6_person 2 (some .int)] rm_X6_personx D cA [.ref (ad 80), .int w] (mdW cA ad g z) (nI 0) (mdW cA ad g (zs z 4 1)) := by
  refine q_startI RX6 (by decide +kernel) rfl (Nat.le_of_ble_eq_true rfl) ?_
  intro p e s m below meth c A args H locs ls hx hb hr hml hown hT hlk hP hK hD hA hS hl
  have hl : lv_has ls 2 [(0, .ref (ad 80)), (1, .int w)] := hl
  refine lv_aload_n hx hb dX6_person_0 rfl (lv_at hl 0 rfl) ?_
  refine lv_aload_n hx hb dX6_person_1 rfl (lv_at hl 0 rfl) ?_
  refine lv_iload_n hx hb dX6_person_2 rfl (lv_at hl 1 rfl) ?_
  refine q_callIW (As := [.int w]) (r := q_b (mB w (z 0))) (w1 := mdW cA ad g z) hx hb hml hown hT hK hP hD hS hA (c_X6_isMention l D cA ad g z w (show (z 0) ≤ 16 by omega)) k_X6_isMention kl_X6_111 (q0 := 0) rfl rfl rfl ((mdW_adr _ _ _ _).trans (mdW_adr _ _ _ _).symm) hl rfl rfl (Nat.le_of_ble_eq_true rfl) ⟨⟨rfl, rfl⟩, Nat.le_of_ble_eq_true rfl, Nat.le_of_ble_eq_true rfl⟩ ⟨Nat.zero_le _, Nat.zero_le _⟩ dX6_person_3 (fun H locs hP hD hS => ?_)
  refine lv_if_eq (tgt := 13) hx hb dX6_person_6 (by decide) (fun c_6 => ?_) (fun c_6 => ?_)
  · have c_6 := q_b0e c_6
    refine lv_iconst (v := nI 1) hx hb dX6_person_13 (by decide +kernel) ?_
    refine q_put (ty := .int) (ws1 := mdW cA ad g (zs z 4 1)) hx hb hT hown hK hP hD hS kw_X6 tyX6_ok nmX6 0 rfl rfl 27 (by decide) kf_X6_82 rfl rfl (by decide +kernel) rfl rfl (Nat.le_of_ble_eq_true rfl) rfl dX6_person_14 (fun H locs hP hD hS => ?_)
    refine lv_aload_n hx hb dX6_person_17 rfl (lv_at hl 0 rfl) ?_
    refine q_get hx hb hT hown hK hP kw_X6 0 rfl rfl 27 (by decide) kf_X6_82 rfl (v := .int (nI 1)) rfl dX6_person_18 ?_
    refine lv_if_le (tgt := 28) hx hb dX6_person_21 (by decide) (fun c_21 => ?_) (fun c_21 => ?_)
    · have c_21 := nI_le1 (a := 1) (b := 0) (by omega) (by omega) c_21
      exfalso; omega
    · have c_21 := nI_le0 (a := 1) (b := 0) (by omega) (by omega) c_21
      refine lv_iconst (v := nI 0) hx hb dX6_person_24 (by decide +kernel) ?_
      refine lv_goto (tgt := 34) hx hb dX6_person_25 (by decide) ?_
      exact q_iret hx hb hr hlk (by rfl) hP hS dX6_person_34
  · have c_6 := q_b0n c_6
    exact absurd c_6 (mB_T hw (by omega))
abbrev rm_X6_entry : Room := { frames := 2, cells := 0, slots := 0, locals := 43 }
set_option maxRecDepth 100000 in
set_option maxHeartbeats 4000000 in
theorem c_X6_entry (l : Launch) (D : va_G) (cA : ClassId) (ad : Nat → Nat) (g : Nat → Nat → Int32) (z : Nat → Nat) (k : Nat) (hk : k < (z 2)) (hm9 : (z 2) ≤ 40) : q_CI l yX6_entry [Cond.code yX6_entry cX6_entry 2 (some .int)] rm_X6_entry D cA [.ref (ad 80), .int (nI k)] (mdW cA ad g z) ((g 23) k) (mdW cA ad g (zs z 4 0)) := by
  refine q_startI RX6 (by decide +kernel) rfl (Nat.le_of_ble_eq_true rfl) ?_
  intro p e s m below meth c A args H locs ls hx hb hr hml hown hT hlk hP hK hD hA hS hl
  have hl : lv_has ls 2 [(0, .ref (ad 80)), (1, .int (nI k))] := hl
  refine lv_aload_n hx hb dX6_entry_0 rfl (lv_at hl 0 rfl) ?_
  refine lv_aload_n hx hb dX6_entry_1 rfl (lv_at hl 0 rfl) ?_
  refine lv_iload_n hx hb dX6_entry_2 rfl (lv_at hl 1 rfl) ?_
  refine q_callIW (As := [.int (nI k)]) (r := q_b (mB (nI k) (z 2))) (w1 := mdW cA ad g z) hx hb hml hown hT hK hP hD hS hA (c_X6_isPerson l D cA ad g z (nI k) (show (z 2) ≤ 40 by omega)) k_X6_isPerson kl_X6_158 (q0 := 0) rfl rfl rfl ((mdW_adr _ _ _ _).trans (mdW_adr _ _ _ _).symm) hl rfl rfl (Nat.le_of_ble_eq_true rfl) ⟨⟨rfl, rfl⟩, Nat.le_of_ble_eq_true rfl, Nat.le_of_ble_eq_true rfl⟩ ⟨Nat.zero_le _, Nat.zero_le _⟩ dX6_entry_3 (fun H locs hP hD hS => ?_)
  refine lv_if_eq (tgt := 13) hx hb dX6_entry_6 (by decide) (fun c_6 => ?_) (fun c_6 => ?_)
  · have c_6 := q_b0e c_6
    exact absurd c_6 (mB_F (q_r_nI (by omega)) (by omega))
  · have c_6 := q_b0n c_6
    refine lv_iconst (v := nI 0) hx hb dX6_entry_9 (by decide +kernel) ?_
    refine lv_goto (tgt := 14) hx hb dX6_entry_10 (by decide) ?_
    refine q_put (ty := .int) (ws1 := mdW cA ad g (zs z 4 0)) hx hb hT hown hK hP hD hS kw_X6 tyX6_ok nmX6 0 rfl rfl 27 (by decide) kf_X6_82 rfl rfl (by decide +kernel) rfl rfl (Nat.le_of_ble_eq_true rfl) rfl dX6_entry_14 (fun H locs hP hD hS => ?_)
    refine lv_aload_n hx hb dX6_entry_17 rfl (lv_at hl 0 rfl) ?_
    refine q_get hx hb hT hown hK hP kw_X6 0 rfl rfl 27 (by decide) kf_X6_82 rfl (v := .int (nI 0)) rfl dX6_entry_18 ?_
    refine lv_if_le (tgt := 28) hx hb dX6_entry_21 (by decide) (fun c_21 => ?_) (fun c_21 => ?_)
    · have c_21 := nI_le1 (a := 0) (b := 0) (by omega) (by omega) c_21
      refine lv_aload_n hx hb dX6_entry_28 rfl (lv_at hl 0 rfl) ?_
      refine q_get hx hb hT hown hK hP kw_X6 0 rfl rfl 23 (by decide) kf_X6_70 rfl (v := .ref (ad 23)) rfl dX6_entry_29 ?_
      refine lv_iload_n hx hb dX6_entry_32 rfl (lv_at hl 1 rfl) ?_
      refine q_iald (f := g 23) hx hb hK hP 21 0 rfl rfl (k) rfl (by omega) (by omega) dX6_entry_33 ?_
      exact q_iret hx hb hr hlk (by rfl) hP hS dX6_entry_34
    · have c_21 := nI_le0 (a := 0) (b := 0) (by omega) (by omega) c_21
      exfalso; omega
abbrev rm_X6_entryx : Room := { frames := 2, cells := 0, slots := 0, locals := 43 }
set_option maxRecDepth 100000 in
set_option maxHeartbeats 4000000 in
theorem c_X6_entryx (l : Launch) (D : va_G) (cA : ClassId) (ad : Nat → Nat) (g : Nat → Nat → Int32) (z : Nat → Nat) (w : Int32) (hw : ¬ q_r w (z 2)) (hm9 : (z 2) ≤ 40) : q_CI l yX6_entry [Cond.code yX6_entry cX6_entry 2 (some .int)] rm_X6_entryx D cA [.ref (ad 80), .int w] (mdW cA ad g z) (nI 0) (mdW cA ad g (zs z 4 1)) := by
  refine q_startI RX6 (by decide +kernel) rfl (Nat.le_of_ble_eq_true rfl) ?_
  intro p e s m below meth c A args H locs ls hx hb hr hml hown hT hlk hP hK hD hA hS hl
  have hl : lv_has ls 2 [(0, .ref (ad 80)), (1, .int w)] := hl
  refine lv_aload_n hx hb dX6_entry_0 rfl (lv_at hl 0 rfl) ?_
  refine lv_aload_n hx hb dX6_entry_1 rfl (lv_at hl 0 rfl) ?_
  refine lv_iload_n hx hb dX6_entry_2 rfl (lv_at hl 1 rfl) ?_
  refine q_callIW (As := [.int w]) (r := q_b (mB w (z 2))) (w1 := mdW cA ad g z) hx hb hml hown hT hK hP hD hS hA (c_X6_isPerson l D cA ad g z w (show (z 2) ≤ 40 by omega)) k_X6_isPerson kl_X6_158 (q0 := 0) rfl rfl rfl ((mdW_adr _ _ _ _).trans (mdW_adr _ _ _ _).symm) hl rfl rfl (Nat.le_of_ble_eq_true rfl) ⟨⟨rfl, rfl⟩, Nat.le_of_ble_eq_true rfl, Nat.le_of_ble_eq_true rfl⟩ ⟨Nat.zero_le _, Nat.zero_le _⟩ dX6_entry_3 (fun H locs hP hD hS => ?_)
  refine lv_if_eq (tgt := 13) hx hb dX6_entry_6 (by decide) (fun c_6 => ?_) (fun c_6 => ?_)
  · have c_6 := q_b0e c_6
    refine lv_iconst (v := nI 1) hx hb dX6_entry_13 (by decide +kernel) ?_
    refine q_put (ty := .int) (ws1 := mdW cA ad g (zs z 4 1)) hx hb hT hown hK hP hD hS kw_X6 tyX6_ok nmX6 0 rfl rfl 27 (by decide) kf_X6_82 rfl rfl (by decide +kernel) rfl rfl (Nat.le_of_ble_eq_true rfl) rfl dX6_entry_14 (fun H locs hP hD hS => ?_)
    refine lv_aload_n hx hb dX6_entry_17 rfl (lv_at hl 0 rfl) ?_
    refine q_get hx hb hT hown hK hP kw_X6 0 rfl rfl 27 (by decide) kf_X6_82 rfl (v := .int (nI 1)) rfl dX6_entry_18 ?_
    refine lv_if_le (tgt := 28) hx hb dX6_entry_21 (by decide) (fun c_21 => ?_) (fun c_21 => ?_)
    · have c_21 := nI_le1 (a := 1) (b := 0) (by omega) (by omega) c_21
      exfalso; omega
    · have c_21 := nI_le0 (a := 1) (b := 0) (by omega) (by omega) c_21
      refine lv_iconst (v := nI 0) hx hb dX6_entry_24 (by decide +kernel) ?_
      refine lv_goto (tgt := 34) hx hb dX6_entry_25 (by decide) ?_
      exact q_iret hx hb hr hlk (by rfl) hP hS dX6_entry_34
  · have c_6 := q_b0n c_6
    exact absurd c_6 (mB_T hw (by omega))
abbrev rm_X6_size : Room := { frames := 2, cells := 0, slots := 0, locals := 43 }
set_option maxRecDepth 100000 in
set_option maxHeartbeats 4000000 in
theorem c_X6_size (l : Launch) (D : va_G) (cA : ClassId) (ad : Nat → Nat) (g : Nat → Nat → Int32) (z : Nat → Nat) (k : Nat) (hk : k < (z 2)) (hm9 : (z 2) ≤ 40) (hc : (z 0) ≤ 16) : q_CI l yX6_size [Cond.code yX6_size cX6_size 2 (some .int)] rm_X6_size D cA [.ref (ad 80), .int (nI k)] (mdW cA ad g z) (nI (cntN (g 22) (g 23 k) (z 0))) (mdW cA ad g (zs z 4 0)) := by
  refine q_startI RX6 (by decide +kernel) rfl (Nat.le_of_ble_eq_true rfl) ?_
  intro p e s m below meth c A args H locs ls hx hb hr hml hown hT hlk hP hK hD hA hS hl
  have hl : lv_has ls 2 [(0, .ref (ad 80)), (1, .int (nI k))] := hl
  refine lv_aload_n hx hb dX6_size_0 rfl (lv_at hl 0 rfl) ?_
  refine lv_aload_n hx hb dX6_size_1 rfl (lv_at hl 0 rfl) ?_
  refine lv_iload_n hx hb dX6_size_2 rfl (lv_at hl 1 rfl) ?_
  refine q_callIW (As := [.int (nI k)]) (r := q_b (mB (nI k) (z 2))) (w1 := mdW cA ad g z) hx hb hml hown hT hK hP hD hS hA (c_X6_isPerson l D cA ad g z (nI k) (show (z 2) ≤ 40 by omega)) k_X6_isPerson kl_X6_158 (q0 := 0) rfl rfl rfl ((mdW_adr _ _ _ _).trans (mdW_adr _ _ _ _).symm) hl rfl rfl (Nat.le_of_ble_eq_true rfl) ⟨⟨rfl, rfl⟩, Nat.le_of_ble_eq_true rfl, Nat.le_of_ble_eq_true rfl⟩ ⟨Nat.zero_le _, Nat.zero_le _⟩ dX6_size_3 (fun H locs hP hD hS => ?_)
  refine lv_if_eq (tgt := 13) hx hb dX6_size_6 (by decide) (fun c_6 => ?_) (fun c_6 => ?_)
  · have c_6 := q_b0e c_6
    exact absurd c_6 (mB_F (q_r_nI (by omega)) (by omega))
  · have c_6 := q_b0n c_6
    refine lv_iconst (v := nI 0) hx hb dX6_size_9 (by decide +kernel) ?_
    refine lv_goto (tgt := 14) hx hb dX6_size_10 (by decide) ?_
    refine q_put (ty := .int) (ws1 := mdW cA ad g (zs z 4 0)) hx hb hT hown hK hP hD hS kw_X6 tyX6_ok nmX6 0 rfl rfl 27 (by decide) kf_X6_82 rfl rfl (by decide +kernel) rfl rfl (Nat.le_of_ble_eq_true rfl) rfl dX6_size_14 (fun H locs hP hD hS => ?_)
    refine lv_aload_n hx hb dX6_size_17 rfl (lv_at hl 0 rfl) ?_
    refine q_get hx hb hT hown hK hP kw_X6 0 rfl rfl 27 (by decide) kf_X6_82 rfl (v := .int (nI 0)) rfl dX6_size_18 ?_
    refine lv_if_le (tgt := 28) hx hb dX6_size_21 (by decide) (fun c_21 => ?_) (fun c_21 => ?_)
    · have c_21 := nI_le1 (a := 0) (b := 0) (by omega) (by omega) c_21
      refine lv_aload_n hx hb dX6_size_28 rfl (lv_at hl 0 rfl) ?_
      refine lv_aload_n hx hb dX6_size_29 rfl (lv_at hl 0 rfl) ?_
      refine q_get hx hb hT hown hK hP kw_X6 0 rfl rfl 23 (by decide) kf_X6_70 rfl (v := .ref (ad 23)) rfl dX6_size_30 ?_
      refine lv_iload_n hx hb dX6_size_33 rfl (lv_at hl 1 rfl) ?_
      refine q_iald (f := g 23) hx hb hK hP 21 0 rfl rfl (k) rfl (by omega) (by omega) dX6_size_34 ?_
      refine q_callIW (As := [.int (g 23 k)]) (r := nI (cntN (g 22) (g 23 k) (z 0))) (w1 := mdW cA ad g (zs z 4 0)) hx hb hml hown hT hK hP hD hS hA (c_X6_sizeOf l D cA ad g (zs z 4 0) (g 23 k) (show (z 0) ≤ 16 by omega)) k_X6_sizeOf kl_X6_155 (q0 := 0) rfl rfl rfl ((mdW_adr _ _ _ _).trans (mdW_adr _ _ _ _).symm) hl rfl rfl (Nat.le_of_ble_eq_true rfl) ⟨⟨rfl, rfl⟩, Nat.le_of_ble_eq_true rfl, Nat.le_of_ble_eq_true rfl⟩ ⟨Nat.zero_le _, Nat.zero_le _⟩ dX6_size_35 (fun H locs hP hD hS => ?_)
      exact q_iret hx hb hr hlk (by rfl) hP hS dX6_size_38
    · have c_21 := nI_le0 (a := 0) (b := 0) (by omega) (by omega) c_21
      exfalso; omega
abbrev rm_X6_sizex : Room := { frames := 2, cells := 0, slots := 0, locals := 43 }
set_option maxRecDepth 100000 in
set_option maxHeartbeats 4000000 in
theorem c_X6_sizex (l : Launch) (D : va_G) (cA : ClassId) (ad : Nat → Nat) (g : Nat → Nat → Int32) (z : Nat → Nat) (w : Int32) (hw : ¬ q_r w (z 2)) (hm9 : (z 2) ≤ 40) : q_CI l yX6_size [Cond.code yX6_size cX6_size 2 (some .int)] rm_X6_sizex D cA [.ref (ad 80), .int w] (mdW cA ad g z) (nI 0) (mdW cA ad g (zs z 4 1)) := by
  refine q_startI RX6 (by decide +kernel) rfl (Nat.le_of_ble_eq_true rfl) ?_
  intro p e s m below meth c A args H locs ls hx hb hr hml hown hT hlk hP hK hD hA hS hl
  have hl : lv_has ls 2 [(0, .ref (ad 80)), (1, .int w)] := hl
  refine lv_aload_n hx hb dX6_size_0 rfl (lv_at hl 0 rfl) ?_
  refine lv_aload_n hx hb dX6_size_1 rfl (lv_at hl 0 rfl) ?_
  refine lv_iload_n hx hb dX6_size_2 rfl (lv_at hl 1 rfl) ?_
  refine q_callIW (As := [.int w]) (r := q_b (mB w (z 2))) (w1 := mdW cA ad g z) hx hb hml hown hT hK hP hD hS hA (c_X6_isPerson l D cA ad g z w (show (z 2) ≤ 40 by omega)) k_X6_isPerson kl_X6_158 (q0 := 0) rfl rfl rfl ((mdW_adr _ _ _ _).trans (mdW_adr _ _ _ _).symm) hl rfl rfl (Nat.le_of_ble_eq_true rfl) ⟨⟨rfl, rfl⟩, Nat.le_of_ble_eq_true rfl, Nat.le_of_ble_eq_true rfl⟩ ⟨Nat.zero_le _, Nat.zero_le _⟩ dX6_size_3 (fun H locs hP hD hS => ?_)
  refine lv_if_eq (tgt := 13) hx hb dX6_size_6 (by decide) (fun c_6 => ?_) (fun c_6 => ?_)
  · have c_6 := q_b0e c_6
    refine lv_iconst (v := nI 1) hx hb dX6_size_13 (by decide +kernel) ?_
    refine q_put (ty := .int) (ws1 := mdW cA ad g (zs z 4 1)) hx hb hT hown hK hP hD hS kw_X6 tyX6_ok nmX6 0 rfl rfl 27 (by decide) kf_X6_82 rfl rfl (by decide +kernel) rfl rfl (Nat.le_of_ble_eq_true rfl) rfl dX6_size_14 (fun H locs hP hD hS => ?_)
    refine lv_aload_n hx hb dX6_size_17 rfl (lv_at hl 0 rfl) ?_
    refine q_get hx hb hT hown hK hP kw_X6 0 rfl rfl 27 (by decide) kf_X6_82 rfl (v := .int (nI 1)) rfl dX6_size_18 ?_
    refine lv_if_le (tgt := 28) hx hb dX6_size_21 (by decide) (fun c_21 => ?_) (fun c_21 => ?_)
    · have c_21 := nI_le1 (a := 1) (b := 0) (by omega) (by omega) c_21
      exfalso; omega
    · have c_21 := nI_le0 (a := 1) (b := 0) (by omega) (by omega) c_21
      refine lv_iconst (v := nI 0) hx hb dX6_size_24 (by decide +kernel) ?_
      refine lv_goto (tgt := 38) hx hb dX6_size_25 (by decide) ?_
      exact q_iret hx hb hr hlk (by rfl) hP hS dX6_size_38
  · have c_6 := q_b0n c_6
    exact absurd c_6 (mB_T hw (by omega))
abbrev rm_X6_careerAt : Room := { frames := 2, cells := 0, slots := 0, locals := 48 }
set_option maxRecDepth 100000 in
set_option maxHeartbeats 4000000 in
theorem c_X6_careerAt (l : Launch) (D : va_G) (cA : ClassId) (ad : Nat → Nat) (g : Nat → Nat → Int32) (z : Nat → Nat) (k : Nat) (p9 : Nat) (hk : k < (z 2)) (hm9 : (z 2) ≤ 40) (hc : (z 0) ≤ 16) (hp9 : p9 < 2147483648) : q_CI l yX6_careerAt [Cond.code yX6_careerAt cX6_careerAt 3 (some .int)] rm_X6_careerAt D cA [.ref (ad 80), .int (nI k), .int (nI p9)] (mdW cA ad g z) (icF g ((g 23) k) (z 0) p9 (z 0)) (mdW cA ad g (zs z 4 0)) := by
  refine q_startI RX6 (by decide +kernel) rfl (Nat.le_of_ble_eq_true rfl) ?_
  intro p e s m below meth c A args H locs ls hx hb hr hml hown hT hlk hP hK hD hA hS hl
  have hl : lv_has ls 3 [(0, .ref (ad 80)), (1, .int (nI k)), (2, .int (nI p9))] := hl
  refine lv_aload_n hx hb dX6_careerAt_0 rfl (lv_at hl 0 rfl) ?_
  refine lv_aload_n hx hb dX6_careerAt_1 rfl (lv_at hl 0 rfl) ?_
  refine lv_iload_n hx hb dX6_careerAt_2 rfl (lv_at hl 1 rfl) ?_
  refine q_callIW (As := [.int (nI k)]) (r := q_b (mB (nI k) (z 2))) (w1 := mdW cA ad g z) hx hb hml hown hT hK hP hD hS hA (c_X6_isPerson l D cA ad g z (nI k) (show (z 2) ≤ 40 by omega)) k_X6_isPerson kl_X6_158 (q0 := 0) rfl rfl rfl ((mdW_adr _ _ _ _).trans (mdW_adr _ _ _ _).symm) hl rfl rfl (Nat.le_of_ble_eq_true rfl) ⟨⟨rfl, rfl⟩, Nat.le_of_ble_eq_true rfl, Nat.le_of_ble_eq_true rfl⟩ ⟨Nat.zero_le _, Nat.zero_le _⟩ dX6_careerAt_3 (fun H locs hP hD hS => ?_)
  refine lv_if_eq (tgt := 17) hx hb dX6_careerAt_6 (by decide) (fun c_6 => ?_) (fun c_6 => ?_)
  · have c_6 := q_b0e c_6
    exact absurd c_6 (mB_F (q_r_nI (by omega)) (by omega))
  · have c_6 := q_b0n c_6
    refine lv_iload_n hx hb dX6_careerAt_9 rfl (lv_at hl 2 rfl) ?_
    refine lv_if_lt (tgt := 17) hx hb dX6_careerAt_10 (by decide) (fun c_10 => ?_) (fun c_10 => ?_)
    · have c_10 := nI_lt1 (a := p9) (b := 0) (by omega) (by omega) c_10
      exfalso; omega
    · have c_10 := nI_lt0 (a := p9) (b := 0) (by omega) (by omega) c_10
      refine lv_iconst (v := nI 0) hx hb dX6_careerAt_13 (by decide +kernel) ?_
      refine lv_goto (tgt := 18) hx hb dX6_careerAt_14 (by decide) ?_
      refine q_put (ty := .int) (ws1 := mdW cA ad g (zs z 4 0)) hx hb hT hown hK hP hD hS kw_X6 tyX6_ok nmX6 0 rfl rfl 27 (by decide) kf_X6_82 rfl rfl (by decide +kernel) rfl rfl (Nat.le_of_ble_eq_true rfl) rfl dX6_careerAt_18 (fun H locs hP hD hS => ?_)
      refine lv_aload_n hx hb dX6_careerAt_21 rfl (lv_at hl 0 rfl) ?_
      refine q_get hx hb hT hown hK hP kw_X6 0 rfl rfl 27 (by decide) kf_X6_82 rfl (v := .int (nI 0)) rfl dX6_careerAt_22 ?_
      refine lv_if_le (tgt := 32) hx hb dX6_careerAt_25 (by decide) (fun c_25 => ?_) (fun c_25 => ?_)
      · have c_25 := nI_le1 (a := 0) (b := 0) (by omega) (by omega) c_25
        refine lv_aload_n hx hb dX6_careerAt_32 rfl (lv_at hl 0 rfl) ?_
        refine lv_aload_n hx hb dX6_careerAt_33 rfl (lv_at hl 0 rfl) ?_
        refine q_get hx hb hT hown hK hP kw_X6 0 rfl rfl 23 (by decide) kf_X6_70 rfl (v := .ref (ad 23)) rfl dX6_careerAt_34 ?_
        refine lv_iload_n hx hb dX6_careerAt_37 rfl (lv_at hl 1 rfl) ?_
        refine q_iald (f := g 23) hx hb hK hP 21 0 rfl rfl (k) rfl (by omega) (by omega) dX6_careerAt_38 ?_
        refine lv_iload_n hx hb dX6_careerAt_39 rfl (lv_at hl 2 rfl) ?_
        refine q_callIW (As := [.int (g 23 k), .int (nI p9)]) (r := icF g (g 23 k) (z 0) p9 (z 0)) (w1 := mdW cA ad g (zs z 4 0)) hx hb hml hown hT hK hP hD hS hA (c_X6_inCareer l D cA ad g (zs z 4 0) (g 23 k) p9 (show (z 0) ≤ 16 by omega) (show p9 < 2147483648 by omega)) k_X6_inCareer kl_X6_167 (q0 := 0) rfl rfl rfl ((mdW_adr _ _ _ _).trans (mdW_adr _ _ _ _).symm) hl rfl rfl (Nat.le_of_ble_eq_true rfl) ⟨⟨rfl, rfl⟩, Nat.le_of_ble_eq_true rfl, Nat.le_of_ble_eq_true rfl⟩ ⟨Nat.zero_le _, Nat.zero_le _⟩ dX6_careerAt_40 (fun H locs hP hD hS => ?_)
        exact q_iret hx hb hr hlk (by rfl) hP hS dX6_careerAt_43
      · have c_25 := nI_le0 (a := 0) (b := 0) (by omega) (by omega) c_25
        exfalso; omega
abbrev rm_X6_careerAtx : Room := { frames := 2, cells := 0, slots := 0, locals := 43 }
set_option maxRecDepth 100000 in
set_option maxHeartbeats 4000000 in
theorem c_X6_careerAtx (l : Launch) (D : va_G) (cA : ClassId) (ad : Nat → Nat) (g : Nat → Nat → Int32) (z : Nat → Nat) (w : Int32) (x : Int32) (hm9 : (z 2) ≤ 40) (hwx : ¬ (q_r w (z 2) ∧ ¬ x < 0)) : q_CI l yX6_careerAt [Cond.code yX6_careerAt cX6_careerAt 3 (some .int)] rm_X6_careerAtx D cA [.ref (ad 80), .int w, .int x] (mdW cA ad g z) (nI 0) (mdW cA ad g (zs z 4 1)) := by
  refine q_startI RX6 (by decide +kernel) rfl (Nat.le_of_ble_eq_true rfl) ?_
  intro p e s m below meth c A args H locs ls hx hb hr hml hown hT hlk hP hK hD hA hS hl
  have hl : lv_has ls 3 [(0, .ref (ad 80)), (1, .int w), (2, .int x)] := hl
  refine lv_aload_n hx hb dX6_careerAt_0 rfl (lv_at hl 0 rfl) ?_
  refine lv_aload_n hx hb dX6_careerAt_1 rfl (lv_at hl 0 rfl) ?_
  refine lv_iload_n hx hb dX6_careerAt_2 rfl (lv_at hl 1 rfl) ?_
  refine q_callIW (As := [.int w]) (r := q_b (mB w (z 2))) (w1 := mdW cA ad g z) hx hb hml hown hT hK hP hD hS hA (c_X6_isPerson l D cA ad g z w (show (z 2) ≤ 40 by omega)) k_X6_isPerson kl_X6_158 (q0 := 0) rfl rfl rfl ((mdW_adr _ _ _ _).trans (mdW_adr _ _ _ _).symm) hl rfl rfl (Nat.le_of_ble_eq_true rfl) ⟨⟨rfl, rfl⟩, Nat.le_of_ble_eq_true rfl, Nat.le_of_ble_eq_true rfl⟩ ⟨Nat.zero_le _, Nat.zero_le _⟩ dX6_careerAt_3 (fun H locs hP hD hS => ?_)
  refine lv_if_eq (tgt := 17) hx hb dX6_careerAt_6 (by decide) (fun c_6 => ?_) (fun c_6 => ?_)
  · have c_6 := q_b0e c_6
    refine lv_iconst (v := nI 1) hx hb dX6_careerAt_17 (by decide +kernel) ?_
    refine q_put (ty := .int) (ws1 := mdW cA ad g (zs z 4 1)) hx hb hT hown hK hP hD hS kw_X6 tyX6_ok nmX6 0 rfl rfl 27 (by decide) kf_X6_82 rfl rfl (by decide +kernel) rfl rfl (Nat.le_of_ble_eq_true rfl) rfl dX6_careerAt_18 (fun H locs hP hD hS => ?_)
    refine lv_aload_n hx hb dX6_careerAt_21 rfl (lv_at hl 0 rfl) ?_
    refine q_get hx hb hT hown hK hP kw_X6 0 rfl rfl 27 (by decide) kf_X6_82 rfl (v := .int (nI 1)) rfl dX6_careerAt_22 ?_
    refine lv_if_le (tgt := 32) hx hb dX6_careerAt_25 (by decide) (fun c_25 => ?_) (fun c_25 => ?_)
    · have c_25 := nI_le1 (a := 1) (b := 0) (by omega) (by omega) c_25
      exfalso; omega
    · have c_25 := nI_le0 (a := 1) (b := 0) (by omega) (by omega) c_25
      refine lv_iconst (v := nI 0) hx hb dX6_careerAt_28 (by decide +kernel) ?_
      refine lv_goto (tgt := 43) hx hb dX6_careerAt_29 (by decide) ?_
      exact q_iret hx hb hr hlk (by rfl) hP hS dX6_careerAt_43
  · have c_6 := q_b0n c_6
    refine lv_iload_n hx hb dX6_careerAt_9 rfl (lv_at hl 2 rfl) ?_
    refine lv_if_lt (tgt := 17) hx hb dX6_careerAt_10 (by decide) (fun c_10 => ?_) (fun c_10 => ?_)
    · refine lv_iconst (v := nI 1) hx hb dX6_careerAt_17 (by decide +kernel) ?_
      refine q_put (ty := .int) (ws1 := mdW cA ad g (zs z 4 1)) hx hb hT hown hK hP hD hS kw_X6 tyX6_ok nmX6 0 rfl rfl 27 (by decide) kf_X6_82 rfl rfl (by decide +kernel) rfl rfl (Nat.le_of_ble_eq_true rfl) rfl dX6_careerAt_18 (fun H locs hP hD hS => ?_)
      refine lv_aload_n hx hb dX6_careerAt_21 rfl (lv_at hl 0 rfl) ?_
      refine q_get hx hb hT hown hK hP kw_X6 0 rfl rfl 27 (by decide) kf_X6_82 rfl (v := .int (nI 1)) rfl dX6_careerAt_22 ?_
      refine lv_if_le (tgt := 32) hx hb dX6_careerAt_25 (by decide) (fun c_25 => ?_) (fun c_25 => ?_)
      · have c_25 := nI_le1 (a := 1) (b := 0) (by omega) (by omega) c_25
        exfalso; omega
      · have c_25 := nI_le0 (a := 1) (b := 0) (by omega) (by omega) c_25
        refine lv_iconst (v := nI 0) hx hb dX6_careerAt_28 (by decide +kernel) ?_
        refine lv_goto (tgt := 43) hx hb dX6_careerAt_29 (by decide) ?_
        exact q_iret hx hb hr hlk (by rfl) hP hS dX6_careerAt_43
    · exact absurd ⟨mB_t c_6 (by omega), c_10⟩ hwx
abbrev rm_X6_breaches : Room := { frames := 2, cells := 0, slots := 0, locals := 48 }
set_option maxRecDepth 100000 in
set_option maxHeartbeats 4000000 in
theorem c_X6_breaches (l : Launch) (D : va_G) (cA : ClassId) (ad : Nat → Nat) (g : Nat → Nat → Int32) (z : Nat → Nat) (k : Nat) (hk : k < (z 2)) (hm9 : (z 2) ≤ 40) (hc : (z 0) ≤ 16) (hPo : ∀ k, k < (z 0) → (g 3) k = (-1) ∨ q_r ((g 3) k) 8) : q_CI l yX6_breaches [Cond.code yX6_breaches cX6_breaches 6 (some .int)] rm_X6_breaches D cA [.ref (ad 80), .int (nI k)] (mdW cA ad g z) (nI (bmR g ((g 23) k) (z 0) 15 1 (icF g ((g 23) k) (z 0) 0 (z 0)) 0)) (mdW cA ad g (zs z 4 0)) := by
  refine q_startI RX6 (by decide +kernel) rfl (Nat.le_of_ble_eq_true rfl) ?_
  intro p e s m below meth c A args H locs ls hx hb hr hml hown hT hlk hP hK hD hA hS hl
  have hl : lv_has ls 6 [(0, .ref (ad 80)), (1, .int (nI k))] := hl
  have zqL43 : ∀ (fu : Nat), ∀ (a : Nat) (b : Int32) (t : Nat), (17 ≤ a + fu) → (1 ≤ a) → (a ≤ 16) → (b = (-1) ∨ (q_r b 16 ∧ q_r (g 3 (q_n b)) 8)) → (bmR g ((g 23) k) (z 0) (16 - a) a b t = bmR g ((g 23) k) (z 0) 15 1 (icF g ((g 23) k) (z 0) 0 (z 0)) 0) → ∀ (H : Heap) (locs : List Loc) (ls : Array Slot), va_P D vwCl (mdW cA ad g (zs z 4 0)) H → va_D A (mdW cA ad g (zs z 4 0)) → va_S A s.heap H locs → lv_has ls 6 [(0, .ref (ad 80)), (1, .int (nI k)), (2, .int (nI t)), (3, .int b), (4, .int (nI a))] → W p l e rm_X6_breaches s m args below meth c H locs 0 0 (q_GI D (nI (bmR g ((g 23) k) (z 0) 15 1 (icF g ((g 23) k) (z 0) 0 (z 0)) 0)) (mdW cA ad g (zs z 4 0)) A below args s) (F0 m 43 ls []) := by
    intro fu
    induction fu with
    | zero =>
      intro a b t hfu ha1 ha2 hbb hre H locs ls hP hD hS hl
      exfalso; omega
    | succ fu ih43 =>
      intro a b t hfu ha1 ha2 hbb hre H locs ls hP hD hS hl
      have zqJ107 : (¬ b = (-1)) → (a < 16) → ∀ (H : Heap) (locs : List Loc) (ls : Array Slot), va_P D vwCl (mdW cA ad g (zs z 4 0)) H → va_D A (mdW cA ad g (zs z 4 0)) → va_S A s.heap H locs → lv_has ls 6 [(0, .ref (ad 80)), (1, .int (nI k)), (3, .int b), (4, .int (nI a)), (5, .int (icF g ((g 23) k) (z 0) a (z 0)))] → W p l e rm_X6_breaches s m args below meth c H locs 0 0 (q_GI D (nI (bmR g ((g 23) k) (z 0) 15 1 (icF g ((g 23) k) (z 0) 0 (z 0)) 0)) (mdW cA ad g (zs z 4 0)) A below args s) (F0 m 107 ls [.int (q_b (decide (¬ icF g ((g 23) k) (z 0) a (z 0) = (-1) ∧ bmK g (icF g ((g 23) k) (z 0) a (z 0)) < bmK g b))), .int (nI t)]) := by
        intro  hbn ha3 H locs ls hP hD hS hl
        refine lv_iadd hx hb dX6_breaches_107 ?_
        refine q_top (y := nI (if ¬ icF g ((g 23) k) (z 0) a (z 0) = (-1) ∧ bmK g (icF g ((g 23) k) (z 0) a (z 0)) < bmK g b then t + 1 else t)) (q_ifadd) ?_
        refine lv_istore_n (lv' := [(2, .int (nI (if ¬ icF g ((g 23) k) (z 0) a (z 0) = (-1) ∧ bmK g (icF g ((g 23) k) (z 0) a (z 0)) < bmK g b then t + 1 else t))), (0, .ref (ad 80)), (1, .int (nI k)), (3, .int b), (4, .int (nI a)), (5, .int (icF g ((g 23) k) (z 0) a (z 0)))]) hx hb dX6_breaches_108 rfl hl (by decide) rfl (fun ls hl => ?_)
        refine lv_iload hx hb dX6_breaches_109 (lv_at hl 5 rfl) ?_
        refine lv_istore_n (lv' := [(3, .int (icF g ((g 23) k) (z 0) a (z 0))), (2, .int (nI (if ¬ icF g ((g 23) k) (z 0) a (z 0) = (-1) ∧ bmK g (icF g ((g 23) k) (z 0) a (z 0)) < bmK g b then t + 1 else t))), (0, .ref (ad 80)), (1, .int (nI k)), (4, .int (nI a)), (5, .int (icF g ((g 23) k) (z 0) a (z 0)))]) hx hb dX6_breaches_111 rfl hl (by decide) rfl (fun ls hl => ?_)
        refine lv_iinc (v := nI (a + 1)) (lv' := [(4, .int (nI (a + 1))), (3, .int (icF g ((g 23) k) (z 0) a (z 0))), (2, .int (nI (if ¬ icF g ((g 23) k) (z 0) a (z 0) = (-1) ∧ bmK g (icF g ((g 23) k) (z 0) a (z 0)) < bmK g b then t + 1 else t))), (0, .ref (ad 80)), (1, .int (nI k)), (5, .int (icF g ((g 23) k) (z 0) a (z 0)))]) hx hb dX6_breaches_112 hl (k := 4) rfl (q_inc1 _) (by decide) rfl (fun ls hl => ?_)
        refine lv_goto (tgt := 43) hx hb dX6_breaches_115 (by decide) ?_
        exact ih43 (a + 1) (icF g ((g 23) k) (z 0) a (z 0)) (if ¬ icF g ((g 23) k) (z 0) a (z 0) = (-1) ∧ bmK g (icF g ((g 23) k) (z 0) a (z 0)) < bmK g b then t + 1 else t) (by omega) (by omega) (by omega) (icF_r hc hPo (z 0) (Nat.le_refl _)) (by rw [show 16 - a = (16 - (a + 1)) + 1 by omega] at hre; exact bmR_s hre hbn) _ _ _ hP hD hS (lv_sub hl [3, 4, 2, 1, 0] rfl)
      refine lv_iload hx hb dX6_breaches_43 (lv_at hl 4 rfl) ?_
      refine lv_bipush (v := nI 16) hx hb dX6_breaches_45 (by decide +kernel) ?_
      refine lv_icmp_ge (tgt := 118) hx hb dX6_breaches_47 (by decide) (fun c_47 => ?_) (fun c_47 => ?_)
      · have c_47 := nI_le1 (a := 16) (b := a) (by omega) (by omega) c_47
        refine lv_iload_n hx hb dX6_breaches_118 rfl (lv_at hl 2 rfl) ?_
        exact q_iret hx hb hr hlk (by first | exact congrArg nI (bmR_e hre c_52) | exact congrArg nI (by rw [show 16 - a = 0 by omega] at hre; exact hre)) hP hS dX6_breaches_119
      · have c_47 := nI_le0 (a := 16) (b := a) (by omega) (by omega) c_47
        refine lv_iload_n hx hb dX6_breaches_50 rfl (lv_at hl 3 rfl) ?_
        refine lv_iconst (v := (-1)) hx hb dX6_breaches_51 (by decide +kernel) ?_
        refine lv_icmp_eq (tgt := 118) hx hb dX6_breaches_52 (by decide) (fun c_52 => ?_) (fun c_52 => ?_)
        · refine lv_iload_n hx hb dX6_breaches_118 rfl (lv_at hl 2 rfl) ?_
          exact q_iret hx hb hr hlk (by first | exact congrArg nI (bmR_e hre c_52) | exact congrArg nI (by rw [show 16 - a = 0 by omega] at hre; exact hre)) hP hS dX6_breaches_119
        · have hbn := c_52
          refine lv_aload_n hx hb dX6_breaches_55 rfl (lv_at hl 0 rfl) ?_
          refine lv_aload_n hx hb dX6_breaches_56 rfl (lv_at hl 0 rfl) ?_
          refine q_get hx hb hT hown hK hP kw_X6 0 rfl rfl 23 (by decide) kf_X6_70 rfl (v := .ref (ad 23)) rfl dX6_breaches_57 ?_
          refine lv_iload_n hx hb dX6_breaches_60 rfl (lv_at hl 1 rfl) ?_
          refine q_iald (f := g 23) hx hb hK hP 21 0 rfl rfl (k) rfl (by omega) (by omega) dX6_breaches_61 ?_
          refine lv_iload hx hb dX6_breaches_62 (lv_at hl 4 rfl) ?_
          refine q_callIW (As := [.int (g 23 k), .int (nI a)]) (r := icF g (g 23 k) (z 0) a (z 0)) (w1 := mdW cA ad g (zs z 4 0)) hx hb hml hown hT hK hP hD hS hA (c_X6_inCareer l D cA ad g (zs z 4 0) (g 23 k) a (show (z 0) ≤ 16 by omega) (show a < 2147483648 by omega)) k_X6_inCareer kl_X6_167 (q0 := 0) rfl rfl rfl ((mdW_adr _ _ _ _).trans (mdW_adr _ _ _ _).symm) hl rfl rfl (Nat.le_of_ble_eq_true rfl) ⟨⟨rfl, rfl⟩, Nat.le_of_ble_eq_true rfl, Nat.le_of_ble_eq_true rfl⟩ ⟨Nat.zero_le _, Nat.zero_le _⟩ dX6_breaches_64 (fun H locs hP hD hS => ?_)
          refine lv_istore (lv' := [(5, .int (icF g (g 23 k) (z 0) a (z 0))), (0, .ref (ad 80)), (1, .int (nI k)), (2, .int (nI t)), (3, .int b), (4, .int (nI a))]) hx hb dX6_breaches_67 hl (by decide) rfl (fun ls hl => ?_)
          refine lv_iload_n hx hb dX6_breaches_69 rfl (lv_at hl 3 rfl) ?_
          refine lv_iload hx hb dX6_breaches_70 (lv_at hl 0 rfl) ?_
          refine lv_iconst (v := (-1)) hx hb dX6_breaches_72 (by decide +kernel) ?_
          refine lv_icmp_eq (tgt := 106) hx hb dX6_breaches_73 (by decide) (fun c_73 => ?_) (fun c_73 => ?_)
          · refine lv_iconst (v := nI 0) hx hb dX6_breaches_106 (by decide +kernel) ?_
            refine q_top (y := q_b (decide (¬ icF g ((g 23) k) (z 0) a (z 0) = (-1) ∧ bmK g (icF g ((g 23) k) (z 0) a (z 0)) < bmK g b))) (by first | exact q_bt (decide_eq_true ⟨c_73, q_lt9 c_99⟩) | exact q_bf (decide_eq_false (fun h => q_nlt9 c_99 h.2)) | exact q_bf (decide_eq_false (fun h => h.1 c_73))) ?_
            exact zqJ107  c_52 (by omega) _ _ _ hP hD hS (lv_sub hl [1, 2, 4, 5, 0] rfl)
          · refine lv_aload_n hx hb dX6_breaches_76 rfl (lv_at hl 1 rfl) ?_
            refine q_get hx hb hT hown hK hP kw_X6 0 rfl rfl 5 (by decide) kf_X6_22 rfl (v := .ref (ad 5)) rfl dX6_breaches_77 ?_
            refine lv_aload_n hx hb dX6_breaches_80 rfl (lv_at hl 1 rfl) ?_
            refine q_get hx hb hT hown hK hP kw_X6 0 rfl rfl 4 (by decide) kf_X6_19 rfl (v := .ref (ad 3)) rfl dX6_breaches_81 ?_
            refine lv_iload hx hb dX6_breaches_84 (lv_at hl 0 rfl) ?_
            refine q_iald (f := g 3) hx hb hK hP 4 0 rfl rfl (q_n (icF g ((g 23) k) (z 0) a (z 0))) (((icF_r hc hPo (z 0) (Nat.le_refl _) (w := (g 23) k) (p := a)).resolve_left c_73).1.eq (by omega)) (((icF_r hc hPo (z 0) (Nat.le_refl _) (w := (g 23) k) (p := a)).resolve_left c_73).1.lt (by omega)) (by omega) dX6_breaches_86 ?_
            refine q_iald (f := g 5) hx hb hK hP 5 0 rfl rfl (q_n (g 3 (q_n (icF g ((g 23) k) (z 0) a (z 0))))) (((icF_r hc hPo (z 0) (Nat.le_refl _) (w := (g 23) k) (p := a)).resolve_left c_73).2.eq (by omega)) (((icF_r hc hPo (z 0) (Nat.le_refl _) (w := (g 23) k) (p := a)).resolve_left c_73).2.lt (by omega)) (by omega) dX6_breaches_87 ?_
            refine lv_aload_n hx hb dX6_breaches_88 rfl (lv_at hl 1 rfl) ?_
            refine q_get hx hb hT hown hK hP kw_X6 0 rfl rfl 5 (by decide) kf_X6_22 rfl (v := .ref (ad 5)) rfl dX6_breaches_89 ?_
            refine lv_aload_n hx hb dX6_breaches_92 rfl (lv_at hl 1 rfl) ?_
            refine q_get hx hb hT hown hK hP kw_X6 0 rfl rfl 4 (by decide) kf_X6_19 rfl (v := .ref (ad 3)) rfl dX6_breaches_93 ?_
            refine lv_iload_n hx hb dX6_breaches_96 rfl (lv_at hl 4 rfl) ?_
            refine q_iald (f := g 3) hx hb hK hP 4 0 rfl rfl (q_n b) ((hbb.resolve_left hbn).1.eq (by omega)) ((hbb.resolve_left hbn).1.lt (by omega)) (by omega) dX6_breaches_97 ?_
            refine q_iald (f := g 5) hx hb hK hP 5 0 rfl rfl (q_n (g 3 (q_n b))) ((hbb.resolve_left hbn).2.eq (by omega)) ((hbb.resolve_left hbn).2.lt (by omega)) (by omega) dX6_breaches_98 ?_
            refine lv_icmp_ge (tgt := 106) hx hb dX6_breaches_99 (by decide) (fun c_99 => ?_) (fun c_99 => ?_)
            · refine lv_iconst (v := nI 0) hx hb dX6_breaches_106 (by decide +kernel) ?_
              refine q_top (y := q_b (decide (¬ icF g ((g 23) k) (z 0) a (z 0) = (-1) ∧ bmK g (icF g ((g 23) k) (z 0) a (z 0)) < bmK g b))) (by first | exact q_bt (decide_eq_true ⟨c_73, q_lt9 c_99⟩) | exact q_bf (decide_eq_false (fun h => q_nlt9 c_99 h.2)) | exact q_bf (decide_eq_false (fun h => h.1 c_73))) ?_
              exact zqJ107  c_52 (by omega) _ _ _ hP hD hS (lv_sub hl [1, 2, 4, 5, 0] rfl)
            · refine lv_iconst (v := nI 1) hx hb dX6_breaches_102 (by decide +kernel) ?_
              refine lv_goto (tgt := 107) hx hb dX6_breaches_103 (by decide) ?_
              refine q_top (y := q_b (decide (¬ icF g ((g 23) k) (z 0) a (z 0) = (-1) ∧ bmK g (icF g ((g 23) k) (z 0) a (z 0)) < bmK g b))) (by first | exact q_bt (decide_eq_true ⟨c_73, q_lt9 c_99⟩) | exact q_bf (decide_eq_false (fun h => q_nlt9 c_99 h.2)) | exact q_bf (decide_eq_false (fun h => h.1 c_73))) ?_
              exact zqJ107  c_52 (by omega) _ _ _ hP hD hS (lv_sub hl [1, 2, 4, 5, 0] rfl)
  refine lv_aload_n hx hb dX6_breaches_0 rfl (lv_at hl 0 rfl) ?_
  refine lv_aload_n hx hb dX6_breaches_1 rfl (lv_at hl 0 rfl) ?_
  refine lv_iload_n hx hb dX6_breaches_2 rfl (lv_at hl 1 rfl) ?_
  refine q_callIW (As := [.int (nI k)]) (r := q_b (mB (nI k) (z 2))) (w1 := mdW cA ad g z) hx hb hml hown hT hK hP hD hS hA (c_X6_isPerson l D cA ad g z (nI k) (show (z 2) ≤ 40 by omega)) k_X6_isPerson kl_X6_158 (q0 := 0) rfl rfl rfl ((mdW_adr _ _ _ _).trans (mdW_adr _ _ _ _).symm) hl rfl rfl (Nat.le_of_ble_eq_true rfl) ⟨⟨rfl, rfl⟩, Nat.le_of_ble_eq_true rfl, Nat.le_of_ble_eq_true rfl⟩ ⟨Nat.zero_le _, Nat.zero_le _⟩ dX6_breaches_3 (fun H locs hP hD hS => ?_)
  refine lv_if_eq (tgt := 13) hx hb dX6_breaches_6 (by decide) (fun c_6 => ?_) (fun c_6 => ?_)
  · have c_6 := q_b0e c_6
    exact absurd c_6 (mB_F (q_r_nI (by omega)) (by omega))
  · have c_6 := q_b0n c_6
    refine lv_iconst (v := nI 0) hx hb dX6_breaches_9 (by decide +kernel) ?_
    refine lv_goto (tgt := 14) hx hb dX6_breaches_10 (by decide) ?_
    refine q_put (ty := .int) (ws1 := mdW cA ad g (zs z 4 0)) hx hb hT hown hK hP hD hS kw_X6 tyX6_ok nmX6 0 rfl rfl 27 (by decide) kf_X6_82 rfl rfl (by decide +kernel) rfl rfl (Nat.le_of_ble_eq_true rfl) rfl dX6_breaches_14 (fun H locs hP hD hS => ?_)
    refine lv_aload_n hx hb dX6_breaches_17 rfl (lv_at hl 0 rfl) ?_
    refine q_get hx hb hT hown hK hP kw_X6 0 rfl rfl 27 (by decide) kf_X6_82 rfl (v := .int (nI 0)) rfl dX6_breaches_18 ?_
    refine lv_if_le (tgt := 26) hx hb dX6_breaches_21 (by decide) (fun c_21 => ?_) (fun c_21 => ?_)
    · have c_21 := nI_le1 (a := 0) (b := 0) (by omega) (by omega) c_21
      refine lv_iconst (v := nI 0) hx hb dX6_breaches_26 (by decide +kernel) ?_
      refine lv_istore_n (lv' := [(2, .int (nI 0)), (0, .ref (ad 80)), (1, .int (nI k))]) hx hb dX6_breaches_27 rfl hl (by decide) rfl (fun ls hl => ?_)
      refine lv_aload_n hx hb dX6_breaches_28 rfl (lv_at hl 1 rfl) ?_
      refine lv_aload_n hx hb dX6_breaches_29 rfl (lv_at hl 1 rfl) ?_
      refine q_get hx hb hT hown hK hP kw_X6 0 rfl rfl 23 (by decide) kf_X6_70 rfl (v := .ref (ad 23)) rfl dX6_breaches_30 ?_
      refine lv_iload_n hx hb dX6_breaches_33 rfl (lv_at hl 2 rfl) ?_
      refine q_iald (f := g 23) hx hb hK hP 21 0 rfl rfl (k) rfl (by omega) (by omega) dX6_breaches_34 ?_
      refine lv_iconst (v := nI 0) hx hb dX6_breaches_35 (by decide +kernel) ?_
      refine q_callIW (As := [.int (g 23 k), .int (nI 0)]) (r := icF g (g 23 k) (z 0) 0 (z 0)) (w1 := mdW cA ad g (zs z 4 0)) hx hb hml hown hT hK hP hD hS hA (c_X6_inCareer l D cA ad g (zs z 4 0) (g 23 k) 0 (show (z 0) ≤ 16 by omega) (show 0 < 2147483648 by omega)) k_X6_inCareer kl_X6_167 (q0 := 0) rfl rfl rfl ((mdW_adr _ _ _ _).trans (mdW_adr _ _ _ _).symm) hl rfl rfl (Nat.le_of_ble_eq_true rfl) ⟨⟨rfl, rfl⟩, Nat.le_of_ble_eq_true rfl, Nat.le_of_ble_eq_true rfl⟩ ⟨Nat.zero_le _, Nat.zero_le _⟩ dX6_breaches_36 (fun H locs hP hD hS => ?_)
      refine lv_istore_n (lv' := [(3, .int (icF g (g 23 k) (z 0) 0 (z 0))), (2, .int (nI 0)), (0, .ref (ad 80)), (1, .int (nI k))]) hx hb dX6_breaches_39 rfl hl (by decide) rfl (fun ls hl => ?_)
      refine lv_iconst (v := nI 1) hx hb dX6_breaches_40 (by decide +kernel) ?_
      refine lv_istore (lv' := [(4, .int (nI 1)), (3, .int (icF g (g 23 k) (z 0) 0 (z 0))), (2, .int (nI 0)), (0, .ref (ad 80)), (1, .int (nI k))]) hx hb dX6_breaches_41 hl (by decide) rfl (fun ls hl => ?_)
      exact zqL43 (17) 1 (icF g (g 23 k) (z 0) 0 (z 0)) 0 (by omega) (by omega) (by omega) (icF_r hc hPo (z 0) (Nat.le_refl _)) rfl _ _ _ hP hD hS (lv_sub hl [3, 4, 2, 1, 0] rfl)
    · have c_21 := nI_le0 (a := 0) (b := 0) (by omega) (by omega) c_21
      exfalso; omega
abbrev rm_X6_breachesx : Room := { frames := 2, cells := 0, slots := 0, locals := 43 }
set_option maxRecDepth 100000 in
set_option maxHeartbeats 4000000 in
theorem c_X6_breachesx (l : Launch) (D : va_G) (cA : ClassId) (ad : Nat → Nat) (g : Nat → Nat → Int32) (z : Nat → Nat) (w : Int32) (hw : ¬ q_r w (z 2)) (hm9 : (z 2) ≤ 40) : q_CI l yX6_breaches [Cond.code yX6_breaches cX6_breaches 6 (some .int)] rm_X6_breachesx D cA [.ref (ad 80), .int w] (mdW cA ad g z) (nI 0) (mdW cA ad g (zs z 4 1)) := by
  refine q_startI RX6 (by decide +kernel) rfl (Nat.le_of_ble_eq_true rfl) ?_
  intro p e s m below meth c A args H locs ls hx hb hr hml hown hT hlk hP hK hD hA hS hl
  have hl : lv_has ls 6 [(0, .ref (ad 80)), (1, .int w)] := hl
  refine lv_aload_n hx hb dX6_breaches_0 rfl (lv_at hl 0 rfl) ?_
  refine lv_aload_n hx hb dX6_breaches_1 rfl (lv_at hl 0 rfl) ?_
  refine lv_iload_n hx hb dX6_breaches_2 rfl (lv_at hl 1 rfl) ?_
  refine q_callIW (As := [.int w]) (r := q_b (mB w (z 2))) (w1 := mdW cA ad g z) hx hb hml hown hT hK hP hD hS hA (c_X6_isPerson l D cA ad g z w (show (z 2) ≤ 40 by omega)) k_X6_isPerson kl_X6_158 (q0 := 0) rfl rfl rfl ((mdW_adr _ _ _ _).trans (mdW_adr _ _ _ _).symm) hl rfl rfl (Nat.le_of_ble_eq_true rfl) ⟨⟨rfl, rfl⟩, Nat.le_of_ble_eq_true rfl, Nat.le_of_ble_eq_true rfl⟩ ⟨Nat.zero_le _, Nat.zero_le _⟩ dX6_breaches_3 (fun H locs hP hD hS => ?_)
  refine lv_if_eq (tgt := 13) hx hb dX6_breaches_6 (by decide) (fun c_6 => ?_) (fun c_6 => ?_)
  · have c_6 := q_b0e c_6
    refine lv_iconst (v := nI 1) hx hb dX6_breaches_13 (by decide +kernel) ?_
    refine q_put (ty := .int) (ws1 := mdW cA ad g (zs z 4 1)) hx hb hT hown hK hP hD hS kw_X6 tyX6_ok nmX6 0 rfl rfl 27 (by decide) kf_X6_82 rfl rfl (by decide +kernel) rfl rfl (Nat.le_of_ble_eq_true rfl) rfl dX6_breaches_14 (fun H locs hP hD hS => ?_)
    refine lv_aload_n hx hb dX6_breaches_17 rfl (lv_at hl 0 rfl) ?_
    refine q_get hx hb hT hown hK hP kw_X6 0 rfl rfl 27 (by decide) kf_X6_82 rfl (v := .int (nI 1)) rfl dX6_breaches_18 ?_
    refine lv_if_le (tgt := 26) hx hb dX6_breaches_21 (by decide) (fun c_21 => ?_) (fun c_21 => ?_)
    · have c_21 := nI_le1 (a := 1) (b := 0) (by omega) (by omega) c_21
      exfalso; omega
    · have c_21 := nI_le0 (a := 1) (b := 0) (by omega) (by omega) c_21
      refine lv_iconst (v := nI 0) hx hb dX6_breaches_24 (by decide +kernel) ?_
      exact q_iret hx hb hr hlk (by rfl) hP hS dX6_breaches_25
  · have c_6 := q_b0n c_6
    exact absurd c_6 (mB_T hw (by omega))
abbrev rm_X6_rival : Room := { frames := 2, cells := 0, slots := 0, locals := 43 }
set_option maxRecDepth 100000 in
set_option maxHeartbeats 4000000 in
theorem c_X6_rival (l : Launch) (D : va_G) (cA : ClassId) (ad : Nat → Nat) (g : Nat → Nat → Int32) (z : Nat → Nat) (k : Nat) (lb : Int32) (hk : k < (z 0)) (hc : (z 0) ≤ 16) (hlb : ¬ lb < (-1) ∧ lb ≤ nI 15) : q_CI l yX6_rival [Cond.code yX6_rival cX6_rival 4 (some .int)] rm_X6_rival D cA [.ref (ad 80), .int (nI k), .int lb] (mdW cA ad g z) ((g 4) k) (mdW cA ad (gs g 4 (upd (g 4) k lb)) (zs z 4 0)) := by
  refine q_startI RX6 (by decide +kernel) rfl (Nat.le_of_ble_eq_true rfl) ?_
  intro p e s m below meth c A args H locs ls hx hb hr hml hown hT hlk hP hK hD hA hS hl
  have hl : lv_has ls 4 [(0, .ref (ad 80)), (1, .int (nI k)), (2, .int lb)] := hl
  refine lv_aload_n hx hb dX6_rival_0 rfl (lv_at hl 0 rfl) ?_
  refine lv_aload_n hx hb dX6_rival_1 rfl (lv_at hl 0 rfl) ?_
  refine lv_iload_n hx hb dX6_rival_2 rfl (lv_at hl 1 rfl) ?_
  refine q_callIW (As := [.int (nI k)]) (r := q_b (mB (nI k) (z 0))) (w1 := mdW cA ad g z) hx hb hml hown hT hK hP hD hS hA (c_X6_isMention l D cA ad g z (nI k) (show (z 0) ≤ 16 by omega)) k_X6_isMention kl_X6_111 (q0 := 0) rfl rfl rfl ((mdW_adr _ _ _ _).trans (mdW_adr _ _ _ _).symm) hl rfl rfl (Nat.le_of_ble_eq_true rfl) ⟨⟨rfl, rfl⟩, Nat.le_of_ble_eq_true rfl, Nat.le_of_ble_eq_true rfl⟩ ⟨Nat.zero_le _, Nat.zero_le _⟩ dX6_rival_3 (fun H locs hP hD hS => ?_)
  refine lv_if_ne (tgt := 13) hx hb dX6_rival_6 (by decide) (fun c_6 => ?_) (fun c_6 => ?_)
  · have c_6 := q_b0n c_6
    refine lv_iload_n hx hb dX6_rival_13 rfl (lv_at hl 2 rfl) ?_
    refine lv_iconst (v := (-1)) hx hb dX6_rival_14 (by decide +kernel) ?_
    refine lv_bipush (v := nI 15) hx hb dX6_rival_15 (by decide +kernel) ?_
    refine q_callSI (As := [.int lb, .int (-1), .int (nI 15)]) (r := q_b (iN lb (-1) (nI 15))) hx hb hml hown hT hK hP hD hS hA (c_X6_isIn l D cA lb (-1) (nI 15)) k_X6_isIn kl_X6_89 hl rfl rfl (Nat.le_of_ble_eq_true rfl) ⟨⟨rfl, rfl⟩, Nat.le_of_ble_eq_true rfl, Nat.le_of_ble_eq_true rfl⟩ ⟨Nat.zero_le _, Nat.zero_le _⟩ dX6_rival_17 (fun H locs hP hD hS => ?_)
    refine lv_if_ne (tgt := 27) hx hb dX6_rival_20 (by decide) (fun c_20 => ?_) (fun c_20 => ?_)
    · have c_20 := q_b0n c_20
      refine lv_iconst (v := nI 0) hx hb dX6_rival_27 (by decide +kernel) ?_
      refine q_put (ty := .int) (ws1 := mdW cA ad g (zs z 4 0)) hx hb hT hown hK hP hD hS kw_X6 tyX6_ok nmX6 0 rfl rfl 27 (by decide) kf_X6_82 rfl rfl (by decide +kernel) rfl rfl (Nat.le_of_ble_eq_true rfl) rfl dX6_rival_28 (fun H locs hP hD hS => ?_)
      refine lv_aload_n hx hb dX6_rival_31 rfl (lv_at hl 0 rfl) ?_
      refine q_get hx hb hT hown hK hP kw_X6 0 rfl rfl 27 (by decide) kf_X6_82 rfl (v := .int (nI 0)) rfl dX6_rival_32 ?_
      refine lv_if_le (tgt := 40) hx hb dX6_rival_35 (by decide) (fun c_35 => ?_) (fun c_35 => ?_)
      · have c_35 := nI_le1 (a := 0) (b := 0) (by omega) (by omega) c_35
        refine lv_aload_n hx hb dX6_rival_40 rfl (lv_at hl 0 rfl) ?_
        refine q_get hx hb hT hown hK hP kw_X6 0 rfl rfl 10 (by decide) kf_X6_37 rfl (v := .ref (ad 4)) rfl dX6_rival_41 ?_
        refine lv_iload_n hx hb dX6_rival_44 rfl (lv_at hl 1 rfl) ?_
        refine q_iald (f := g 4) hx hb hK hP 10 0 rfl rfl (k) rfl (by omega) (by omega) dX6_rival_45 ?_
        refine lv_istore_n (lv' := [(3, .int (g 4 k)), (0, .ref (ad 80)), (1, .int (nI k)), (2, .int lb)]) hx hb dX6_rival_46 rfl hl (by decide) rfl (fun ls hl => ?_)
        refine lv_aload_n hx hb dX6_rival_47 rfl (lv_at hl 1 rfl) ?_
        refine q_get hx hb hT hown hK hP kw_X6 0 rfl rfl 10 (by decide) kf_X6_37 rfl (v := .ref (ad 4)) rfl dX6_rival_48 ?_
        refine lv_iload_n hx hb dX6_rival_51 rfl (lv_at hl 2 rfl) ?_
        refine lv_iload_n hx hb dX6_rival_52 rfl (lv_at hl 3 rfl) ?_
        refine q_iast (f := g 4) (ws1 := mdW cA ad (gs g 4 (upd (g 4) k lb)) (zs z 4 0)) hx hb hK hP hD hS 10 0 rfl rfl (k) rfl (by omega) (by omega) rfl dX6_rival_53 (fun H locs hP hD hS => ?_)
        obtain ⟨nF53_4, enF53_4⟩ : ∃ y : Nat → Int32, y = upd (g 4) k lb := ⟨_, rfl⟩
        have hP : va_P D vwCl (mdW cA ad (gs g 4 nF53_4) (zs z 4 0)) H := by rw [enF53_4]; exact hP
        have hD : va_D A (mdW cA ad (gs g 4 nF53_4) (zs z 4 0)) := by rw [enF53_4]; exact hD
        refine lv_iload_n hx hb dX6_rival_54 rfl (lv_at hl 0 rfl) ?_
        rw [enF53_4] at hP hD
        exact q_iret hx hb hr hlk (by rfl) hP hS dX6_rival_55
      · have c_35 := nI_le0 (a := 0) (b := 0) (by omega) (by omega) c_35
        exfalso; omega
    · have c_20 := q_b0e c_20
      exact absurd c_20 (by rw [iN_t hlb]; decide)
  · have c_6 := q_b0e c_6
    exact absurd c_6 (mB_F (q_r_nI (by omega)) (by omega))
abbrev rm_X6_rivalx : Room := { frames := 2, cells := 0, slots := 0, locals := 43 }
set_option maxRecDepth 100000 in
set_option maxHeartbeats 4000000 in
theorem c_X6_rivalx (l : Launch) (D : va_G) (cA : ClassId) (ad : Nat → Nat) (g : Nat → Nat → Int32) (z : Nat → Nat) (w : Int32) (lb : Int32) (hw : ¬ q_r w (z 0)) (hc : (z 0) ≤ 16) : q_CI l yX6_rival [Cond.code yX6_rival cX6_rival 4 (some .int)] rm_X6_rivalx D cA [.ref (ad 80), .int w, .int lb] (mdW cA ad g z) (nI 0) (mdW cA ad g (zs z 4 1)) := by
  refine q_startI RX6 (by decide +kernel) rfl (Nat.le_of_ble_eq_true rfl) ?_
  intro p e s m below meth c A args H locs ls hx hb hr hml hown hT hlk hP hK hD hA hS hl
  have hl : lv_has ls 4 [(0, .ref (ad 80)), (1, .int w), (2, .int lb)] := hl
  refine lv_aload_n hx hb dX6_rival_0 rfl (lv_at hl 0 rfl) ?_
  refine lv_aload_n hx hb dX6_rival_1 rfl (lv_at hl 0 rfl) ?_
  refine lv_iload_n hx hb dX6_rival_2 rfl (lv_at hl 1 rfl) ?_
  refine q_callIW (As := [.int w]) (r := q_b (mB w (z 0))) (w1 := mdW cA ad g z) hx hb hml hown hT hK hP hD hS hA (c_X6_isMention l D cA ad g z w (show (z 0) ≤ 16 by omega)) k_X6_isMention kl_X6_111 (q0 := 0) rfl rfl rfl ((mdW_adr _ _ _ _).trans (mdW_adr _ _ _ _).symm) hl rfl rfl (Nat.le_of_ble_eq_true rfl) ⟨⟨rfl, rfl⟩, Nat.le_of_ble_eq_true rfl, Nat.le_of_ble_eq_true rfl⟩ ⟨Nat.zero_le _, Nat.zero_le _⟩ dX6_rival_3 (fun H locs hP hD hS => ?_)
  refine lv_if_ne (tgt := 13) hx hb dX6_rival_6 (by decide) (fun c_6 => ?_) (fun c_6 => ?_)
  · have c_6 := q_b0n c_6
    exact absurd c_6 (mB_T hw (by omega))
  · have c_6 := q_b0e c_6
    refine lv_iconst (v := nI 1) hx hb dX6_rival_9 (by decide +kernel) ?_
    refine lv_goto (tgt := 28) hx hb dX6_rival_10 (by decide) ?_
    refine q_put (ty := .int) (ws1 := mdW cA ad g (zs z 4 1)) hx hb hT hown hK hP hD hS kw_X6 tyX6_ok nmX6 0 rfl rfl 27 (by decide) kf_X6_82 rfl rfl (by decide +kernel) rfl rfl (Nat.le_of_ble_eq_true rfl) rfl dX6_rival_28 (fun H locs hP hD hS => ?_)
    refine lv_aload_n hx hb dX6_rival_31 rfl (lv_at hl 0 rfl) ?_
    refine q_get hx hb hT hown hK hP kw_X6 0 rfl rfl 27 (by decide) kf_X6_82 rfl (v := .int (nI 1)) rfl dX6_rival_32 ?_
    refine lv_if_le (tgt := 40) hx hb dX6_rival_35 (by decide) (fun c_35 => ?_) (fun c_35 => ?_)
    · have c_35 := nI_le1 (a := 1) (b := 0) (by omega) (by omega) c_35
      exfalso; omega
    · have c_35 := nI_le0 (a := 1) (b := 0) (by omega) (by omega) c_35
      refine lv_iconst (v := nI 0) hx hb dX6_rival_38 (by decide +kernel) ?_
      exact q_iret hx hb hr hlk (by rfl) hP hS dX6_rival_39
abbrev rm_X6_rivalx2 : Room := { frames := 2, cells := 0, slots := 0, locals := 43 }
set_option maxRecDepth 100000 in
set_option maxHeartbeats 4000000 in
theorem c_X6_rivalx2 (l : Launch) (D : va_G) (cA : ClassId) (ad : Nat → Nat) (g : Nat → Nat → Int32) (z : Nat → Nat) (w : Int32) (lb : Int32) (hw : q_r w (z 0)) (hc : (z 0) ≤ 16) (hlb : ¬ (¬ lb < (-1) ∧ lb ≤ nI 15)) : q_CI l yX6_rival [Cond.code yX6_rival cX6_rival 4 (some .int)] rm_X6_rivalx2 D cA [.ref (ad 80), .int w, .int lb] (mdW cA ad g z) (nI 0) (mdW cA ad g (zs z 4 2)) := by
  refine q_startI RX6 (by decide +kernel) rfl (Nat.le_of_ble_eq_true rfl) ?_
  intro p e s m below meth c A args H locs ls hx hb hr hml hown hT hlk hP hK hD hA hS hl
  have hl : lv_has ls 4 [(0, .ref (ad 80)), (1, .int w), (2, .int lb)] := hl
  refine lv_aload_n hx hb dX6_rival_0 rfl (lv_at hl 0 rfl) ?_
  refine lv_aload_n hx hb dX6_rival_1 rfl (lv_at hl 0 rfl) ?_
  refine lv_iload_n hx hb dX6_rival_2 rfl (lv_at hl 1 rfl) ?_
  refine q_callIW (As := [.int w]) (r := q_b (mB w (z 0))) (w1 := mdW cA ad g z) hx hb hml hown hT hK hP hD hS hA (c_X6_isMention l D cA ad g z w (show (z 0) ≤ 16 by omega)) k_X6_isMention kl_X6_111 (q0 := 0) rfl rfl rfl ((mdW_adr _ _ _ _).trans (mdW_adr _ _ _ _).symm) hl rfl rfl (Nat.le_of_ble_eq_true rfl) ⟨⟨rfl, rfl⟩, Nat.le_of_ble_eq_true rfl, Nat.le_of_ble_eq_true rfl⟩ ⟨Nat.zero_le _, Nat.zero_le _⟩ dX6_rival_3 (fun H locs hP hD hS => ?_)
  refine lv_if_ne (tgt := 13) hx hb dX6_rival_6 (by decide) (fun c_6 => ?_) (fun c_6 => ?_)
  · have c_6 := q_b0n c_6
    refine lv_iload_n hx hb dX6_rival_13 rfl (lv_at hl 2 rfl) ?_
    refine lv_iconst (v := (-1)) hx hb dX6_rival_14 (by decide +kernel) ?_
    refine lv_bipush (v := nI 15) hx hb dX6_rival_15 (by decide +kernel) ?_
    refine q_callSI (As := [.int lb, .int (-1), .int (nI 15)]) (r := q_b (iN lb (-1) (nI 15))) hx hb hml hown hT hK hP hD hS hA (c_X6_isIn l D cA lb (-1) (nI 15)) k_X6_isIn kl_X6_89 hl rfl rfl (Nat.le_of_ble_eq_true rfl) ⟨⟨rfl, rfl⟩, Nat.le_of_ble_eq_true rfl, Nat.le_of_ble_eq_true rfl⟩ ⟨Nat.zero_le _, Nat.zero_le _⟩ dX6_rival_17 (fun H locs hP hD hS => ?_)
    refine lv_if_ne (tgt := 27) hx hb dX6_rival_20 (by decide) (fun c_20 => ?_) (fun c_20 => ?_)
    · have c_20 := q_b0n c_20
      exact absurd (iN_e c_20) hlb
    · have c_20 := q_b0e c_20
      refine lv_iconst (v := nI 2) hx hb dX6_rival_23 (by decide +kernel) ?_
      refine lv_goto (tgt := 28) hx hb dX6_rival_24 (by decide) ?_
      refine q_put (ty := .int) (ws1 := mdW cA ad g (zs z 4 2)) hx hb hT hown hK hP hD hS kw_X6 tyX6_ok nmX6 0 rfl rfl 27 (by decide) kf_X6_82 rfl rfl (by decide +kernel) rfl rfl (Nat.le_of_ble_eq_true rfl) rfl dX6_rival_28 (fun H locs hP hD hS => ?_)
      refine lv_aload_n hx hb dX6_rival_31 rfl (lv_at hl 0 rfl) ?_
      refine q_get hx hb hT hown hK hP kw_X6 0 rfl rfl 27 (by decide) kf_X6_82 rfl (v := .int (nI 2)) rfl dX6_rival_32 ?_
      refine lv_if_le (tgt := 40) hx hb dX6_rival_35 (by decide) (fun c_35 => ?_) (fun c_35 => ?_)
      · have c_35 := nI_le1 (a := 2) (b := 0) (by omega) (by omega) c_35
        exfalso; omega
      · have c_35 := nI_le0 (a := 2) (b := 0) (by omega) (by omega) c_35
        refine lv_iconst (v := nI 0) hx hb dX6_rival_38 (by decide +kernel) ?_
        exact q_iret hx hb hr hlk (by rfl) hP hS dX6_rival_39
  · have c_6 := q_b0e c_6
    exact absurd c_6 (mB_F hw (by omega))
abbrev rm_X6_differ : Room := { frames := 0, cells := 0, slots := 0, locals := 0 }
set_option maxRecDepth 100000 in
set_option maxHeartbeats 4000000 in
theorem c_X6_differ (l : Launch) (D : va_G) (cA : ClassId) (ad : Nat → Nat) (g : Nat → Nat → Int32) (z : Nat → Nat)  (hc : (z 0) ≤ 16) : q_CI l yX6_differ [Cond.code yX6_differ cX6_differ 5 (some .int)] rm_X6_differ D cA [.ref (ad 80)] (mdW cA ad g z) (nI (dmO g (z 0))) (mdW cA ad g (zs z 4 0)) := by
  refine q_startI RX6 (by decide +kernel) rfl (Nat.le_of_ble_eq_true rfl) ?_
  intro p e s m below meth c A args H locs ls hx hb hr hml hown hT hlk hP hK hD hA hS hl
  have hl : lv_has ls 5 [(0, .ref (ad 80))] := hl
  have zqL9 : ∀ (fu : Nat), ∀ (k : Nat), (z 0 + 1 ≤ k + fu) → (k ≤ (z 0)) → ∀ (H : Heap) (locs : List Loc) (ls : Array Slot), va_P D vwCl (mdW cA ad g (zs z 4 0)) H → va_D A (mdW cA ad g (zs z 4 0)) → va_S A s.heap H locs → lv_has ls 5 [(0, .ref (ad 80)), (1, .int (nI (dmO g k))), (2, .int (nI k))] → W p l e rm_X6_differ s m args below meth c H locs 0 0 (q_GI D (nI (dmO g (z 0))) (mdW cA ad g (zs z 4 0)) A below args s) (F0 m 9 ls []) := by
    intro fu
    induction fu with
    | zero =>
      intro k hfu hk H locs ls hP hD hS hl
      exfalso; omega
    | succ fu ih9 =>
      intro k hfu hk H locs ls hP hD hS hl
      have zqL19 : ∀ (fu : Nat), ∀ (m9 : Nat), (k + 1 ≤ m9 + fu) → (m9 ≤ k) → (k < (z 0)) → ∀ (H : Heap) (locs : List Loc) (ls : Array Slot), va_P D vwCl (mdW cA ad g (zs z 4 0)) H → va_D A (mdW cA ad g (zs z 4 0)) → va_S A s.heap H locs → lv_has ls 5 [(0, .ref (ad 80)), (1, .int (nI (dmO g k + dmI g k m9))), (2, .int (nI k)), (3, .int (nI m9))] → W p l e rm_X6_differ s m args below meth c H locs 0 0 (q_GI D (nI (dmO g (z 0))) (mdW cA ad g (zs z 4 0)) A below args s) (F0 m 19 ls []) := by
        intro fu
        induction fu with
        | zero =>
          intro m9 hfu hm8 hk9 H locs ls hP hD hS hl
          exfalso; omega
        | succ fu ih19 =>
          intro m9 hfu hm8 hk9 H locs ls hP hD hS hl
          have zqJ87 : (m9 < k) → ∀ (H : Heap) (locs : List Loc) (ls : Array Slot), va_P D vwCl (mdW cA ad g (zs z 4 0)) H → va_D A (mdW cA ad g (zs z 4 0)) → va_S A s.heap H locs → lv_has ls 5 [(0, .ref (ad 80)), (2, .int (nI k)), (3, .int (nI m9))] → W p l e rm_X6_differ s m args below meth c H locs 0 0 (q_GI D (nI (dmO g (z 0))) (mdW cA ad g (zs z 4 0)) A below args s) (F0 m 87 ls [.int (q_b (decide (¬ kn (g 4 k) (g 4 m9) = decide (g 22 k = g 22 m9)))), .int (nI (dmO g k + dmI g k m9))]) := by
            intro  hm7 H locs ls hP hD hS hl
            refine lv_iadd hx hb dX6_differ_87 ?_
            refine q_top (y := nI (dmO g k + dmI g k (m9 + 1))) (dmI_addb) ?_
            refine lv_istore_n (lv' := [(1, .int (nI (dmO g k + dmI g k (m9 + 1)))), (0, .ref (ad 80)), (2, .int (nI k)), (3, .int (nI m9))]) hx hb dX6_differ_88 rfl hl (by decide) rfl (fun ls hl => ?_)
            refine lv_iinc (v := nI (m9 + 1)) (lv' := [(3, .int (nI (m9 + 1))), (1, .int (nI (dmO g k + dmI g k (m9 + 1)))), (0, .ref (ad 80)), (2, .int (nI k))]) hx hb dX6_differ_89 hl (k := 3) rfl (q_inc1 _) (by decide) rfl (fun ls hl => ?_)
            refine lv_goto (tgt := 19) hx hb dX6_differ_92 (by decide) ?_
            exact ih19 (m9 + 1) (by omega) (by omega) (by omega) _ _ _ hP hD hS (lv_sub hl [2, 1, 3, 0] rfl)
          have zqJ79 : (m9 < k) → ∀ (H : Heap) (locs : List Loc) (ls : Array Slot), va_P D vwCl (mdW cA ad g (zs z 4 0)) H → va_D A (mdW cA ad g (zs z 4 0)) → va_S A s.heap H locs → lv_has ls 5 [(0, .ref (ad 80)), (2, .int (nI k)), (3, .int (nI m9))] → W p l e rm_X6_differ s m args below meth c H locs 0 0 (q_GI D (nI (dmO g (z 0))) (mdW cA ad g (zs z 4 0)) A below args s) (F0 m 79 ls [.int (q_b (decide (g 22 k = g 22 m9))), .int (q_b (kn (g 4 k) (g 4 m9))), .int (nI (dmO g k + dmI g k m9))]) := by
            intro  hm7 H locs ls hP hD hS hl
            refine lv_icmp_eq (tgt := 86) hx hb dX6_differ_79 (by decide) (fun c_79 => ?_) (fun c_79 => ?_)
            · have d_79 := q_b_inj c_79
              refine lv_iconst (v := nI 0) hx hb dX6_differ_86 (by decide +kernel) ?_
              refine q_top (y := q_b (decide (¬ kn (g 4 k) (g 4 m9) = decide (g 22 k = g 22 m9)))) (by first | exact q_bf (decide_eq_false (fun z => z d_79)) | exact q_bt (decide_eq_true d_79)) ?_
              exact zqJ87  (by omega) _ _ _ hP hD hS (lv_sub hl [0, 1, 2] rfl)
            · have d_79 := q_b_ne c_79
              refine lv_iconst (v := nI 1) hx hb dX6_differ_82 (by decide +kernel) ?_
              refine lv_goto (tgt := 87) hx hb dX6_differ_83 (by decide) ?_
              refine q_top (y := q_b (decide (¬ kn (g 4 k) (g 4 m9) = decide (g 22 k = g 22 m9)))) (by first | exact q_bf (decide_eq_false (fun z => z d_79)) | exact q_bt (decide_eq_true d_79)) ?_
              exact zqJ87  (by omega) _ _ _ hP hD hS (lv_sub hl [0, 1, 2] rfl)
          have zqJ54 : (m9 < k) → ∀ (H : Heap) (locs : List Loc) (ls : Array Slot), va_P D vwCl (mdW cA ad g (zs z 4 0)) H → va_D A (mdW cA ad g (zs z 4 0)) → va_S A s.heap H locs → lv_has ls 5 [(0, .ref (ad 80)), (1, .int (nI (dmO g k + dmI g k m9))), (2, .int (nI k)), (3, .int (nI m9))] → W p l e rm_X6_differ s m args below meth c H locs 0 0 (q_GI D (nI (dmO g (z 0))) (mdW cA ad g (zs z 4 0)) A below args s) (F0 m 54 ls [.int (q_b (kn (g 4 k) (g 4 m9)))]) := by
            intro  hm7 H locs ls hP hD hS hl
            refine lv_istore (lv' := [(4, .int (q_b (kn (g 4 k) (g 4 m9)))), (0, .ref (ad 80)), (1, .int (nI (dmO g k + dmI g k m9))), (2, .int (nI k)), (3, .int (nI m9))]) hx hb dX6_differ_54 hl (by decide) rfl (fun ls hl => ?_)
            refine lv_iload_n hx hb dX6_differ_56 rfl (lv_at hl 2 rfl) ?_
            refine lv_iload hx hb dX6_differ_57 (lv_at hl 0 rfl) ?_
            refine lv_aload_n hx hb dX6_differ_59 rfl (lv_at hl 1 rfl) ?_
            refine q_get hx hb hT hown hK hP kw_X6 0 rfl rfl 22 (by decide) kf_X6_67 rfl (v := .ref (ad 22)) rfl dX6_differ_60 ?_
            refine lv_iload_n hx hb dX6_differ_63 rfl (lv_at hl 3 rfl) ?_
            refine q_iald (f := g 22) hx hb hK hP 20 0 rfl rfl (k) rfl (by omega) (by omega) dX6_differ_64 ?_
            refine lv_aload_n hx hb dX6_differ_65 rfl (lv_at hl 1 rfl) ?_
            refine q_get hx hb hT hown hK hP kw_X6 0 rfl rfl 22 (by decide) kf_X6_67 rfl (v := .ref (ad 22)) rfl dX6_differ_66 ?_
            refine lv_iload_n hx hb dX6_differ_69 rfl (lv_at hl 4 rfl) ?_
            refine q_iald (f := g 22) hx hb hK hP 20 0 rfl rfl (m9) rfl (by omega) (by omega) dX6_differ_70 ?_
            refine lv_icmp_ne (tgt := 78) hx hb dX6_differ_71 (by decide) (fun c_71 => ?_) (fun c_71 => ?_)
            · refine lv_iconst (v := nI 0) hx hb dX6_differ_78 (by decide +kernel) ?_
              refine q_top (y := q_b (decide (g 22 k = g 22 m9))) (by first | exact q_bt (decide_eq_true c_71) | exact q_bf (decide_eq_false c_71)) ?_
              exact zqJ79  (by omega) _ _ _ hP hD hS (lv_sub hl [1, 3, 4] rfl)
            · refine lv_iconst (v := nI 1) hx hb dX6_differ_74 (by decide +kernel) ?_
              refine lv_goto (tgt := 79) hx hb dX6_differ_75 (by decide) ?_
              refine q_top (y := q_b (decide (g 22 k = g 22 m9))) (by first | exact q_bt (decide_eq_true c_71) | exact q_bf (decide_eq_false c_71)) ?_
              exact zqJ79  (by omega) _ _ _ hP hD hS (lv_sub hl [1, 3, 4] rfl)
          refine lv_iload_n hx hb dX6_differ_19 rfl (lv_at hl 3 rfl) ?_
          refine lv_iload_n hx hb dX6_differ_20 rfl (lv_at hl 2 rfl) ?_
          refine lv_icmp_ge (tgt := 95) hx hb dX6_differ_21 (by decide) (fun c_21 => ?_) (fun c_21 => ?_)
          · have c_21 := nI_le1 (a := k) (b := m9) (by omega) (by omega) c_21
            refine lv_iinc (v := nI (k + 1)) (lv' := [(2, .int (nI (k + 1))), (0, .ref (ad 80)), (1, .int (nI (dmO g k + dmI g k m9))), (3, .int (nI m9))]) hx hb dX6_differ_95 hl (k := 2) rfl (q_inc1 _) (by decide) rfl (fun ls hl => ?_)
            refine lv_goto (tgt := 9) hx hb dX6_differ_98 (by decide) ?_
            have e9_0 : (nI (dmO g k + dmI g k m9)) = (nI (dmO g (k + 1))) := by first | with_reducible rfl | (rw [show m9 = k by omega]; rfl)
            have hl9 : lv_has ls 5 [(0, .ref (ad 80)), (1, .int (nI (dmO g (k + 1)))), (2, .int (nI (k + 1)))] := lv_cast (l := [(0, .ref (ad 80)), (1, .int (nI (dmO g k + dmI g k m9))), (2, .int (nI (k + 1)))]) (lv_sub hl [1, 2, 0] rfl) (congrArg (fun v9 : Int32 => ([(0, .ref (ad 80)), (1, .int v9), (2, .int (nI (k + 1)))] : List (Nat × Value))) e9_0)
            exact ih9 (k + 1) (by omega) (by omega) _ _ _ hP hD hS hl9
          · have c_21 := nI_le0 (a := k) (b := m9) (by omega) (by omega) c_21
            refine lv_aload_n hx hb dX6_differ_24 rfl (lv_at hl 0 rfl) ?_
            refine q_get hx hb hT hown hK hP kw_X6 0 rfl rfl 10 (by decide) kf_X6_37 rfl (v := .ref (ad 4)) rfl dX6_differ_25 ?_
            refine lv_iload_n hx hb dX6_differ_28 rfl (lv_at hl 2 rfl) ?_
            refine q_iald (f := g 4) hx hb hK hP 10 0 rfl rfl (k) rfl (by omega) (by omega) dX6_differ_29 ?_
            refine lv_iconst (v := (-1)) hx hb dX6_differ_30 (by decide +kernel) ?_
            refine lv_icmp_eq (tgt := 53) hx hb dX6_differ_31 (by decide) (fun c_31 => ?_) (fun c_31 => ?_)
            · refine lv_iconst (v := nI 0) hx hb dX6_differ_53 (by decide +kernel) ?_
              refine q_top (y := q_b (kn (g 4 k) (g 4 m9))) (by first | exact q_bt (kn_t c_46 c_31) | exact q_bf (Bool.eq_false_iff.2 (kn_f1 c_31)) | exact q_bf (Bool.eq_false_iff.2 (kn_f2 c_46))) ?_
              exact zqJ54  (by omega) _ _ _ hP hD hS (lv_sub hl [0, 1, 2, 3] rfl)
            · refine lv_aload_n hx hb dX6_differ_34 rfl (lv_at hl 0 rfl) ?_
              refine q_get hx hb hT hown hK hP kw_X6 0 rfl rfl 10 (by decide) kf_X6_37 rfl (v := .ref (ad 4)) rfl dX6_differ_35 ?_
              refine lv_iload_n hx hb dX6_differ_38 rfl (lv_at hl 2 rfl) ?_
              refine q_iald (f := g 4) hx hb hK hP 10 0 rfl rfl (k) rfl (by omega) (by omega) dX6_differ_39 ?_
              refine lv_aload_n hx hb dX6_differ_40 rfl (lv_at hl 0 rfl) ?_
              refine q_get hx hb hT hown hK hP kw_X6 0 rfl rfl 10 (by decide) kf_X6_37 rfl (v := .ref (ad 4)) rfl dX6_differ_41 ?_
              refine lv_iload_n hx hb dX6_differ_44 rfl (lv_at hl 3 rfl) ?_
              refine q_iald (f := g 4) hx hb hK hP 10 0 rfl rfl (m9) rfl (by omega) (by omega) dX6_differ_45 ?_
              refine lv_icmp_ne (tgt := 53) hx hb dX6_differ_46 (by decide) (fun c_46 => ?_) (fun c_46 => ?_)
              · refine lv_iconst (v := nI 0) hx hb dX6_differ_53 (by decide +kernel) ?_
                refine q_top (y := q_b (kn (g 4 k) (g 4 m9))) (by first | exact q_bt (kn_t c_46 c_31) | exact q_bf (Bool.eq_false_iff.2 (kn_f1 c_31)) | exact q_bf (Bool.eq_false_iff.2 (kn_f2 c_46))) ?_
                exact zqJ54  (by omega) _ _ _ hP hD hS (lv_sub hl [0, 1, 2, 3] rfl)
              · refine lv_iconst (v := nI 1) hx hb dX6_differ_49 (by decide +kernel) ?_
                refine lv_goto (tgt := 54) hx hb dX6_differ_50 (by decide) ?_
                refine q_top (y := q_b (kn (g 4 k) (g 4 m9))) (by first | exact q_bt (kn_t c_46 c_31) | exact q_bf (Bool.eq_false_iff.2 (kn_f1 c_31)) | exact q_bf (Bool.eq_false_iff.2 (kn_f2 c_46))) ?_
                exact zqJ54  (by omega) _ _ _ hP hD hS (lv_sub hl [0, 1, 2, 3] rfl)
      refine lv_iload_n hx hb dX6_differ_9 rfl (lv_at hl 2 rfl) ?_
      refine lv_aload_n hx hb dX6_differ_10 rfl (lv_at hl 0 rfl) ?_
      refine q_get hx hb hT hown hK hP kw_X6 0 rfl rfl 0 (by decide) kf_X6_86 rfl (v := .int (nI (z 0))) rfl dX6_differ_11 ?_
      refine lv_icmp_ge (tgt := 101) hx hb dX6_differ_14 (by decide) (fun c_14 => ?_) (fun c_14 => ?_)
      · have c_14 := nI_le1 (a := z 0) (b := k) (by omega) (by omega) c_14
        refine lv_iload_n hx hb dX6_differ_101 rfl (lv_at hl 1 rfl) ?_
        exact q_iret hx hb hr hlk (by rw [show k = z 0 by omega]) hP hS dX6_differ_102
      · have c_14 := nI_le0 (a := z 0) (b := k) (by omega) (by omega) c_14
        refine lv_iconst (v := nI 0) hx hb dX6_differ_17 (by decide +kernel) ?_
        refine lv_istore_n (lv' := [(3, .int (nI 0)), (0, .ref (ad 80)), (1, .int (nI (dmO g k))), (2, .int (nI k))]) hx hb dX6_differ_18 rfl hl (by decide) rfl (fun ls hl => ?_)
        have e9_0 : (nI (dmO g k)) = (nI (dmO g k + dmI g k 0)) := by first | with_reducible rfl | (rfl)
        have hl9 : lv_has ls 5 [(0, .ref (ad 80)), (1, .int (nI (dmO g k + dmI g k 0))), (2, .int (nI k)), (3, .int (nI 0))] := lv_cast (l := [(0, .ref (ad 80)), (1, .int (nI (dmO g k))), (2, .int (nI k)), (3, .int (nI 0))]) (lv_sub hl [1, 2, 3, 0] rfl) (congrArg (fun v9 : Int32 => ([(0, .ref (ad 80)), (1, .int v9), (2, .int (nI k)), (3, .int (nI 0))] : List (Nat × Value))) e9_0)
        exact zqL19 (k + 1) 0 (by omega) (by omega) (by omega) _ _ _ hP hD hS hl9
  refine lv_aload_n hx hb dX6_differ_0 rfl (lv_at hl 0 rfl) ?_
  refine lv_iconst (v := nI 0) hx hb dX6_differ_1 (by decide +kernel) ?_
  refine q_put (ty := .int) (ws1 := mdW cA ad g (zs z 4 0)) hx hb hT hown hK hP hD hS kw_X6 tyX6_ok nmX6 0 rfl rfl 27 (by decide) kf_X6_82 rfl rfl (by decide +kernel) rfl rfl (Nat.le_of_ble_eq_true rfl) rfl dX6_differ_2 (fun H locs hP hD hS => ?_)
  refine lv_iconst (v := nI 0) hx hb dX6_differ_5 (by decide +kernel) ?_
  refine lv_istore_n (lv' := [(1, .int (nI 0)), (0, .ref (ad 80))]) hx hb dX6_differ_6 rfl hl (by decide) rfl (fun ls hl => ?_)
  refine lv_iconst (v := nI 0) hx hb dX6_differ_7 (by decide +kernel) ?_
  refine lv_istore_n (lv' := [(2, .int (nI 0)), (1, .int (nI 0)), (0, .ref (ad 80))]) hx hb dX6_differ_8 rfl hl (by decide) rfl (fun ls hl => ?_)
  have e9_0 : (nI 0) = (nI (dmO g 0)) := by first | with_reducible rfl | (rfl)
  have hl9 : lv_has ls 5 [(0, .ref (ad 80)), (1, .int (nI (dmO g 0))), (2, .int (nI 0))] := lv_cast (l := [(0, .ref (ad 80)), (1, .int (nI 0)), (2, .int (nI 0))]) (lv_sub hl [2, 1, 0] rfl) (congrArg (fun v9 : Int32 => ([(0, .ref (ad 80)), (1, .int v9), (2, .int (nI 0))] : List (Nat × Value))) e9_0)
  exact zqL9 (z 0 + 1) 0 (by omega) (by omega) _ _ _ hP hD hS hl9
abbrev rm_X6_degree : Room := { frames := 2, cells := 0, slots := 0, locals := 43 }
set_option maxRecDepth 100000 in
set_option maxHeartbeats 4000000 in
theorem c_X6_degree (l : Launch) (D : va_G) (cA : ClassId) (ad : Nat → Nat) (g : Nat → Nat → Int32) (z : Nat → Nat) (a : Nat) (b : Nat) (ha : a < (z 2)) (hb9 : b < (z 2)) (hm9 : (z 2) ≤ 40) (hc : (z 0) ≤ 16) (hO : ∀ k, k < (z 0) → q_r ((g 22) k) 40) (hLd : ∀ k, k < (z 2) → q_r ((g 23) k) 40) : q_CI l yX6_degree [Cond.code yX6_degree cX6_degree 6 (some .int)] rm_X6_degree D cA [.ref (ad 80), .int (nI a), .int (nI b)] (mdW cA ad g z) ((sdN (g 22) (g 11) (z 0) (upd (fillTo (g 7) (-1) 40) (q_n (g 23 a)) (nI 0)) 16) (q_n (g 23 b))) (mdW cA ad (gs g 7 (sdN (g 22) (g 11) (z 0) (upd (fillTo (g 7) (-1) 40) (q_n (g 23 a)) (nI 0)) 16)) (zs z 4 0)) := by
  refine q_startI RX6 (by decide +kernel) rfl (Nat.le_of_ble_eq_true rfl) ?_
  intro p e s m below meth c A args H locs ls hx hb hr hml hown hT hlk hP hK hD hA hS hl
  have hl : lv_has ls 6 [(0, .ref (ad 80)), (1, .int (nI a)), (2, .int (nI b))] := hl
  have zqL69 : ∀ (fu : Nat), ∀ (t : Nat), (17 ≤ t + fu) → (t ≤ 16) → ∀ (H : Heap) (locs : List Loc) (ls : Array Slot), va_P D vwCl (mdW cA ad (gs g 7 (sdN (g 22) (g 11) (z 0) (upd (fillTo (g 7) (-1) 40) (q_n (g 23 a)) (nI 0)) t)) (zs z 4 0)) H → va_D A (mdW cA ad (gs g 7 (sdN (g 22) (g 11) (z 0) (upd (fillTo (g 7) (-1) 40) (q_n (g 23 a)) (nI 0)) t)) (zs z 4 0)) → va_S A s.heap H locs → lv_has ls 6 [(0, .ref (ad 80)), (1, .int (nI a)), (2, .int (nI b)), (3, .int (nI t))] → W p l e rm_X6_degree s m args below meth c H locs 0 0 (q_GI D ((sdN (g 22) (g 11) (z 0) (upd (fillTo (g 7) (-1) 40) (q_n (g 23 a)) (nI 0)) 16) (q_n (g 23 b))) (mdW cA ad (gs g 7 (sdN (g 22) (g 11) (z 0) (upd (fillTo (g 7) (-1) 40) (q_n (g 23 a)) (nI 0)) 16)) (zs z 4 0)) A below args s) (F0 m 69 ls []) := by
    intro fu
    induction fu with
    | zero =>
      intro t hfu ht9 H locs ls hP hD hS hl
      exfalso; omega
    | succ fu ih69 =>
      intro t hfu ht9 H locs ls hP hD hS hl
      have zqL78 : ∀ (fu : Nat), ∀ (k : Nat), (z 0 + 1 ≤ k + fu) → (k ≤ (z 0)) → (t < 16) → ∀ (H : Heap) (locs : List Loc) (ls : Array Slot), va_P D vwCl (mdW cA ad (gs g 7 (sdK (g 22) (g 11) (z 0) t (sdN (g 22) (g 11) (z 0) (upd (fillTo (g 7) (-1) 40) (q_n (g 23 a)) (nI 0)) t) k)) (zs z 4 0)) H → va_D A (mdW cA ad (gs g 7 (sdK (g 22) (g 11) (z 0) t (sdN (g 22) (g 11) (z 0) (upd (fillTo (g 7) (-1) 40) (q_n (g 23 a)) (nI 0)) t) k)) (zs z 4 0)) → va_S A s.heap H locs → lv_has ls 6 [(0, .ref (ad 80)), (1, .int (nI a)), (2, .int (nI b)), (3, .int (nI t)), (4, .int (nI k))] → W p l e rm_X6_degree s m args below meth c H locs 0 0 (q_GI D ((sdN (g 22) (g 11) (z 0) (upd (fillTo (g 7) (-1) 40) (q_n (g 23 a)) (nI 0)) 16) (q_n (g 23 b))) (mdW cA ad (gs g 7 (sdN (g 22) (g 11) (z 0) (upd (fillTo (g 7) (-1) 40) (q_n (g 23 a)) (nI 0)) 16)) (zs z 4 0)) A below args s) (F0 m 78 ls []) := by
        intro fu
        induction fu with
        | zero =>
          intro k hfu hk ht8 H locs ls hP hD hS hl
          exfalso; omega
        | succ fu ih78 =>
          intro k hfu hk ht8 H locs ls hP hD hS hl
          have zqL90 : ∀ (fu : Nat), ∀ (m9 : Nat), (z 0 + 1 ≤ m9 + fu) → (m9 ≤ (z 0)) → (k < (z 0)) → ∀ (H : Heap) (locs : List Loc) (ls : Array Slot), va_P D vwCl (mdW cA ad (gs g 7 (sdI (g 22) (g 11) t k (sdK (g 22) (g 11) (z 0) t (sdN (g 22) (g 11) (z 0) (upd (fillTo (g 7) (-1) 40) (q_n (g 23 a)) (nI 0)) t) k) m9)) (zs z 4 0)) H → va_D A (mdW cA ad (gs g 7 (sdI (g 22) (g 11) t k (sdK (g 22) (g 11) (z 0) t (sdN (g 22) (g 11) (z 0) (upd (fillTo (g 7) (-1) 40) (q_n (g 23 a)) (nI 0)) t) k) m9)) (zs z 4 0)) → va_S A s.heap H locs → lv_has ls 6 [(0, .ref (ad 80)), (1, .int (nI a)), (2, .int (nI b)), (3, .int (nI t)), (4, .int (nI k)), (5, .int (nI m9))] → W p l e rm_X6_degree s m args below meth c H locs 0 0 (q_GI D ((sdN (g 22) (g 11) (z 0) (upd (fillTo (g 7) (-1) 40) (q_n (g 23 a)) (nI 0)) 16) (q_n (g 23 b))) (mdW cA ad (gs g 7 (sdN (g 22) (g 11) (z 0) (upd (fillTo (g 7) (-1) 40) (q_n (g 23 a)) (nI 0)) 16)) (zs z 4 0)) A below args s) (F0 m 90 ls []) := by
            intro fu
            induction fu with
            | zero =>
              intro m9 hfu hm8 hk9 H locs ls hP hD hS hl
              exfalso; omega
            | succ fu ih90 =>
              intro m9 hfu hm8 hk9 H locs ls hP hD hS hl
              have zqJ161 : (m9 < (z 0)) → ∀ (H : Heap) (locs : List Loc) (ls : Array Slot), va_P D vwCl (mdW cA ad (gs g 7 (sdI (g 22) (g 11) t k (sdK (g 22) (g 11) (z 0) t (sdN (g 22) (g 11) (z 0) (upd (fillTo (g 7) (-1) 40) (q_n (g 23 a)) (nI 0)) t) k) (m9 + 1))) (zs z 4 0)) H → va_D A (mdW cA ad (gs g 7 (sdI (g 22) (g 11) t k (sdK (g 22) (g 11) (z 0) t (sdN (g 22) (g 11) (z 0) (upd (fillTo (g 7) (-1) 40) (q_n (g 23 a)) (nI 0)) t) k) (m9 + 1))) (zs z 4 0)) → va_S A s.heap H locs → lv_has ls 6 [(0, .ref (ad 80)), (1, .int (nI a)), (2, .int (nI b)), (3, .int (nI t)), (4, .int (nI k)), (5, .int (nI m9))] → W p l e rm_X6_degree s m args below meth c H locs 0 0 (q_GI D ((sdN (g 22) (g 11) (z 0) (upd (fillTo (g 7) (-1) 40) (q_n (g 23 a)) (nI 0)) 16) (q_n (g 23 b))) (mdW cA ad (gs g 7 (sdN (g 22) (g 11) (z 0) (upd (fillTo (g 7) (-1) 40) (q_n (g 23 a)) (nI 0)) 16)) (zs z 4 0)) A below args s) (F0 m 161 ls []) := by
                intro  hm7 H locs ls hP hD hS hl
                refine lv_iinc (v := nI (m9 + 1)) (lv' := [(5, .int (nI (m9 + 1))), (0, .ref (ad 80)), (1, .int (nI a)), (2, .int (nI b)), (3, .int (nI t)), (4, .int (nI k))]) hx hb dX6_degree_161 hl (k := 5) rfl (q_inc1 _) (by decide) rfl (fun ls hl => ?_)
                refine lv_goto (tgt := 90) hx hb dX6_degree_164 (by decide) ?_
                exact ih90 (m9 + 1) (by omega) (by omega) (by omega) _ _ _ hP hD hS (lv_sub hl [1, 2, 3, 4, 5, 0] rfl)
              refine lv_iload hx hb dX6_degree_90 (lv_at hl 5 rfl) ?_
              refine lv_aload_n hx hb dX6_degree_92 rfl (lv_at hl 0 rfl) ?_
              refine q_get hx hb hT hown hK hP kw_X6 0 rfl rfl 0 (by decide) kf_X6_86 rfl (v := .int (nI (z 0))) rfl dX6_degree_93 ?_
              refine lv_icmp_ge (tgt := 167) hx hb dX6_degree_96 (by decide) (fun c_96 => ?_) (fun c_96 => ?_)
              · have c_96 := nI_le1 (a := z 0) (b := m9) (by omega) (by omega) c_96
                refine lv_iinc (v := nI (k + 1)) (lv' := [(4, .int (nI (k + 1))), (0, .ref (ad 80)), (1, .int (nI a)), (2, .int (nI b)), (3, .int (nI t)), (5, .int (nI m9))]) hx hb dX6_degree_167 hl (k := 4) rfl (q_inc1 _) (by decide) rfl (fun ls hl => ?_)
                refine lv_goto (tgt := 78) hx hb dX6_degree_170 (by decide) ?_
                have ew9 : (mdW cA ad (gs g 7 (sdI (g 22) (g 11) t k (sdK (g 22) (g 11) (z 0) t (sdN (g 22) (g 11) (z 0) (upd (fillTo (g 7) (-1) 40) (q_n (g 23 a)) (nI 0)) t) k) m9)) (zs z 4 0)) = (mdW cA ad (gs g 7 (sdK (g 22) (g 11) (z 0) t (sdN (g 22) (g 11) (z 0) (upd (fillTo (g 7) (-1) 40) (q_n (g 23 a)) (nI 0)) t) (k + 1))) (zs z 4 0)) := by first | with_reducible rfl | (first | (rw [show m9 = z 0 by omega, sdK_s]) | rw [sdK_0])
                have hP : va_P D vwCl (mdW cA ad (gs g 7 (sdK (g 22) (g 11) (z 0) t (sdN (g 22) (g 11) (z 0) (upd (fillTo (g 7) (-1) 40) (q_n (g 23 a)) (nI 0)) t) (k + 1))) (zs z 4 0)) H := va_cast' hP ew9
                have hD : va_D A (mdW cA ad (gs g 7 (sdK (g 22) (g 11) (z 0) t (sdN (g 22) (g 11) (z 0) (upd (fillTo (g 7) (-1) 40) (q_n (g 23 a)) (nI 0)) t) (k + 1))) (zs z 4 0)) := va_castD hD ew9
                exact ih78 (k + 1) (by omega) (by omega) (by omega) _ _ _ hP hD hS (lv_sub hl [1, 2, 3, 4, 0] rfl)
              · have c_96 := nI_le0 (a := z 0) (b := m9) (by omega) (by omega) c_96
                refine lv_aload_n hx hb dX6_degree_99 rfl (lv_at hl 0 rfl) ?_
                refine q_get hx hb hT hown hK hP kw_X6 0 rfl rfl 24 (by decide) kf_X6_73 rfl (v := .ref (ad 7)) rfl dX6_degree_100 ?_
                refine lv_aload_n hx hb dX6_degree_103 rfl (lv_at hl 0 rfl) ?_
                refine q_get hx hb hT hown hK hP kw_X6 0 rfl rfl 22 (by decide) kf_X6_67 rfl (v := .ref (ad 22)) rfl dX6_degree_104 ?_
                refine lv_iload hx hb dX6_degree_107 (lv_at hl 4 rfl) ?_
                refine q_iald (f := g 22) hx hb hK hP 20 0 rfl rfl (k) rfl (by omega) (by omega) dX6_degree_109 ?_
                refine q_top (y := nI (q_n (g 22 k))) ((hO k (by omega)).eq (by omega)) ?_
                refine q_iald (f := sdI (g 22) (g 11) t k (sdK (g 22) (g 11) (z 0) t (sdN (g 22) (g 11) (z 0) (upd (fillTo (g 7) (-1) 40) (q_n (g 23 a)) (nI 0)) t) k) m9) hx hb hK hP 22 0 rfl rfl (q_n (g 22 k)) rfl ((hO k (by omega)).lt (by omega)) (by omega) dX6_degree_110 ?_
                refine lv_iload_n hx hb dX6_degree_111 rfl (lv_at hl 3 rfl) ?_
                refine lv_icmp_ne (tgt := 161) hx hb dX6_degree_112 (by decide) (fun c_112 => ?_) (fun c_112 => ?_)
                · have ew9 : (mdW cA ad (gs g 7 (sdI (g 22) (g 11) t k (sdK (g 22) (g 11) (z 0) t (sdN (g 22) (g 11) (z 0) (upd (fillTo (g 7) (-1) 40) (q_n (g 23 a)) (nI 0)) t) k) m9)) (zs z 4 0)) = (mdW cA ad (gs g 7 (sdI (g 22) (g 11) t k (sdK (g 22) (g 11) (z 0) t (sdN (g 22) (g 11) (z 0) (upd (fillTo (g 7) (-1) 40) (q_n (g 23 a)) (nI 0)) t) k) (m9 + 1))) (zs z 4 0)) := by first | with_reducible rfl | (first | rw [sdI_t c_112 c_127 c_143] | rw [sdI_f (fun h => c_112 h.1)] | rw [sdI_f (fun h => Bool.false_ne_true (c_127.symm.trans h.2.1))] | rw [sdI_f (fun h => c_143 h.2.2)])
                  have hP : va_P D vwCl (mdW cA ad (gs g 7 (sdI (g 22) (g 11) t k (sdK (g 22) (g 11) (z 0) t (sdN (g 22) (g 11) (z 0) (upd (fillTo (g 7) (-1) 40) (q_n (g 23 a)) (nI 0)) t) k) (m9 + 1))) (zs z 4 0)) H := va_cast' hP ew9
                  have hD : va_D A (mdW cA ad (gs g 7 (sdI (g 22) (g 11) t k (sdK (g 22) (g 11) (z 0) t (sdN (g 22) (g 11) (z 0) (upd (fillTo (g 7) (-1) 40) (q_n (g 23 a)) (nI 0)) t) k) (m9 + 1))) (zs z 4 0)) := va_castD hD ew9
                  exact zqJ161  (by omega) _ _ _ hP hD hS (lv_sub hl [0, 1, 2, 3, 4, 5] rfl)
                · refine lv_aload_n hx hb dX6_degree_115 rfl (lv_at hl 0 rfl) ?_
                  refine q_get hx hb hT hown hK hP kw_X6 0 rfl rfl 9 (by decide) kf_X6_34 rfl (v := .ref (ad 11)) rfl dX6_degree_116 ?_
                  refine lv_iload hx hb dX6_degree_119 (lv_at hl 4 rfl) ?_
                  refine q_iald (f := g 11) hx hb hK hP 9 0 rfl rfl (k) rfl (by omega) (by omega) dX6_degree_121 ?_
                  refine lv_iload hx hb dX6_degree_122 (lv_at hl 5 rfl) ?_
                  refine q_callSI (As := [.int (g 11 k), .int (nI m9)]) (r := q_b (hasB (g 11 k) (nI m9))) hx hb hml hown hT hK hP hD hS hA (c_X6_has l D cA (g 11 k) (nI m9)) k_X6_has kl_X6_104 hl rfl rfl (Nat.le_of_ble_eq_true rfl) ⟨⟨rfl, rfl⟩, Nat.le_of_ble_eq_true rfl, Nat.le_of_ble_eq_true rfl⟩ ⟨Nat.zero_le _, Nat.zero_le _⟩ dX6_degree_124 (fun H locs hP hD hS => ?_)
                  refine lv_if_eq (tgt := 161) hx hb dX6_degree_127 (by decide) (fun c_127 => ?_) (fun c_127 => ?_)
                  · have c_127 := q_b0e c_127
                    have ew9 : (mdW cA ad (gs g 7 (sdI (g 22) (g 11) t k (sdK (g 22) (g 11) (z 0) t (sdN (g 22) (g 11) (z 0) (upd (fillTo (g 7) (-1) 40) (q_n (g 23 a)) (nI 0)) t) k) m9)) (zs z 4 0)) = (mdW cA ad (gs g 7 (sdI (g 22) (g 11) t k (sdK (g 22) (g 11) (z 0) t (sdN (g 22) (g 11) (z 0) (upd (fillTo (g 7) (-1) 40) (q_n (g 23 a)) (nI 0)) t) k) (m9 + 1))) (zs z 4 0)) := by first | with_reducible rfl | (first | rw [sdI_t c_112 c_127 c_143] | rw [sdI_f (fun h => c_112 h.1)] | rw [sdI_f (fun h => Bool.false_ne_true (c_127.symm.trans h.2.1))] | rw [sdI_f (fun h => c_143 h.2.2)])
                    have hP : va_P D vwCl (mdW cA ad (gs g 7 (sdI (g 22) (g 11) t k (sdK (g 22) (g 11) (z 0) t (sdN (g 22) (g 11) (z 0) (upd (fillTo (g 7) (-1) 40) (q_n (g 23 a)) (nI 0)) t) k) (m9 + 1))) (zs z 4 0)) H := va_cast' hP ew9
                    have hD : va_D A (mdW cA ad (gs g 7 (sdI (g 22) (g 11) t k (sdK (g 22) (g 11) (z 0) t (sdN (g 22) (g 11) (z 0) (upd (fillTo (g 7) (-1) 40) (q_n (g 23 a)) (nI 0)) t) k) (m9 + 1))) (zs z 4 0)) := va_castD hD ew9
                    exact zqJ161  (by omega) _ _ _ hP hD hS (lv_sub hl [0, 1, 2, 3, 4, 5] rfl)
                  · have c_127 := q_b0n c_127
                    refine lv_aload_n hx hb dX6_degree_130 rfl (lv_at hl 0 rfl) ?_
                    refine q_get hx hb hT hown hK hP kw_X6 0 rfl rfl 24 (by decide) kf_X6_73 rfl (v := .ref (ad 7)) rfl dX6_degree_131 ?_
                    refine lv_aload_n hx hb dX6_degree_134 rfl (lv_at hl 0 rfl) ?_
                    refine q_get hx hb hT hown hK hP kw_X6 0 rfl rfl 22 (by decide) kf_X6_67 rfl (v := .ref (ad 22)) rfl dX6_degree_135 ?_
                    refine lv_iload hx hb dX6_degree_138 (lv_at hl 5 rfl) ?_
                    refine q_iald (f := g 22) hx hb hK hP 20 0 rfl rfl (m9) rfl (by omega) (by omega) dX6_degree_140 ?_
                    refine q_top (y := nI (q_n (g 22 m9))) ((hO m9 (by omega)).eq (by omega)) ?_
                    refine q_iald (f := sdI (g 22) (g 11) t k (sdK (g 22) (g 11) (z 0) t (sdN (g 22) (g 11) (z 0) (upd (fillTo (g 7) (-1) 40) (q_n (g 23 a)) (nI 0)) t) k) m9) hx hb hK hP 22 0 rfl rfl (q_n (g 22 m9)) rfl ((hO m9 (by omega)).lt (by omega)) (by omega) dX6_degree_141 ?_
                    refine lv_iconst (v := (-1)) hx hb dX6_degree_142 (by decide +kernel) ?_
                    refine lv_icmp_ne (tgt := 161) hx hb dX6_degree_143 (by decide) (fun c_143 => ?_) (fun c_143 => ?_)
                    · have ew9 : (mdW cA ad (gs g 7 (sdI (g 22) (g 11) t k (sdK (g 22) (g 11) (z 0) t (sdN (g 22) (g 11) (z 0) (upd (fillTo (g 7) (-1) 40) (q_n (g 23 a)) (nI 0)) t) k) m9)) (zs z 4 0)) = (mdW cA ad (gs g 7 (sdI (g 22) (g 11) t k (sdK (g 22) (g 11) (z 0) t (sdN (g 22) (g 11) (z 0) (upd (fillTo (g 7) (-1) 40) (q_n (g 23 a)) (nI 0)) t) k) (m9 + 1))) (zs z 4 0)) := by first | with_reducible rfl | (first | rw [sdI_t c_112 c_127 c_143] | rw [sdI_f (fun h => c_112 h.1)] | rw [sdI_f (fun h => Bool.false_ne_true (c_127.symm.trans h.2.1))] | rw [sdI_f (fun h => c_143 h.2.2)])
                      have hP : va_P D vwCl (mdW cA ad (gs g 7 (sdI (g 22) (g 11) t k (sdK (g 22) (g 11) (z 0) t (sdN (g 22) (g 11) (z 0) (upd (fillTo (g 7) (-1) 40) (q_n (g 23 a)) (nI 0)) t) k) (m9 + 1))) (zs z 4 0)) H := va_cast' hP ew9
                      have hD : va_D A (mdW cA ad (gs g 7 (sdI (g 22) (g 11) t k (sdK (g 22) (g 11) (z 0) t (sdN (g 22) (g 11) (z 0) (upd (fillTo (g 7) (-1) 40) (q_n (g 23 a)) (nI 0)) t) k) (m9 + 1))) (zs z 4 0)) := va_castD hD ew9
                      exact zqJ161  (by omega) _ _ _ hP hD hS (lv_sub hl [0, 1, 2, 3, 4, 5] rfl)
                    · refine lv_aload_n hx hb dX6_degree_146 rfl (lv_at hl 0 rfl) ?_
                      refine q_get hx hb hT hown hK hP kw_X6 0 rfl rfl 24 (by decide) kf_X6_73 rfl (v := .ref (ad 7)) rfl dX6_degree_147 ?_
                      refine lv_aload_n hx hb dX6_degree_150 rfl (lv_at hl 0 rfl) ?_
                      refine q_get hx hb hT hown hK hP kw_X6 0 rfl rfl 22 (by decide) kf_X6_67 rfl (v := .ref (ad 22)) rfl dX6_degree_151 ?_
                      refine lv_iload hx hb dX6_degree_154 (lv_at hl 5 rfl) ?_
                      refine q_iald (f := g 22) hx hb hK hP 20 0 rfl rfl (m9) rfl (by omega) (by omega) dX6_degree_156 ?_
                      refine q_top (y := nI (q_n (g 22 m9))) ((hO m9 (by omega)).eq (by omega)) ?_
                      refine lv_iload_n hx hb dX6_degree_157 rfl (lv_at hl 3 rfl) ?_
                      refine lv_iconst (v := nI 1) hx hb dX6_degree_158 (by decide +kernel) ?_
                      refine lv_iadd hx hb dX6_degree_159 ?_
                      refine q_top (y := nI (t + 1)) (nI_add _ _) ?_
                      refine q_iast (f := sdI (g 22) (g 11) t k (sdK (g 22) (g 11) (z 0) t (sdN (g 22) (g 11) (z 0) (upd (fillTo (g 7) (-1) 40) (q_n (g 23 a)) (nI 0)) t) k) m9) (ws1 := mdW cA ad (gs g 7 (upd (sdI (g 22) (g 11) t k (sdK (g 22) (g 11) (z 0) t (sdN (g 22) (g 11) (z 0) (upd (fillTo (g 7) (-1) 40) (q_n (g 23 a)) (nI 0)) t) k) m9) (q_n (g 22 m9)) (nI (t + 1)))) (zs z 4 0)) hx hb hK hP hD hS 22 0 rfl rfl (q_n (g 22 m9)) rfl ((hO m9 (by omega)).lt (by omega)) (by omega) rfl dX6_degree_160 (fun H locs hP hD hS => ?_)
                      obtain ⟨nF160_7, enF160_7⟩ : ∃ y : Nat → Int32, y = upd (sdI (g 22) (g 11) t k (sdK (g 22) (g 11) (z 0) t (sdN (g 22) (g 11) (z 0) (upd (fillTo (g 7) (-1) 40) (q_n (g 23 a)) (nI 0)) t) k) m9) (q_n (g 22 m9)) (nI (t + 1)) := ⟨_, rfl⟩
                      have hP : va_P D vwCl (mdW cA ad (gs g 7 nF160_7) (zs z 4 0)) H := by rw [enF160_7]; exact hP
                      have hD : va_D A (mdW cA ad (gs g 7 nF160_7) (zs z 4 0)) := by rw [enF160_7]; exact hD
                      rw [enF160_7] at hP hD
                      have ew9 : (mdW cA ad (gs g 7 (upd (sdI (g 22) (g 11) t k (sdK (g 22) (g 11) (z 0) t (sdN (g 22) (g 11) (z 0) (upd (fillTo (g 7) (-1) 40) (q_n (g 23 a)) (nI 0)) t) k) m9) (q_n (g 22 m9)) (nI (t + 1)))) (zs z 4 0)) = (mdW cA ad (gs g 7 (sdI (g 22) (g 11) t k (sdK (g 22) (g 11) (z 0) t (sdN (g 22) (g 11) (z 0) (upd (fillTo (g 7) (-1) 40) (q_n (g 23 a)) (nI 0)) t) k) (m9 + 1))) (zs z 4 0)) := by first | with_reducible rfl | (first | rw [sdI_t c_112 c_127 c_143] | rw [sdI_f (fun h => c_112 h.1)] | rw [sdI_f (fun h => Bool.false_ne_true (c_127.symm.trans h.2.1))] | rw [sdI_f (fun h => c_143 h.2.2)])
                      have hP : va_P D vwCl (mdW cA ad (gs g 7 (sdI (g 22) (g 11) t k (sdK (g 22) (g 11) (z 0) t (sdN (g 22) (g 11) (z 0) (upd (fillTo (g 7) (-1) 40) (q_n (g 23 a)) (nI 0)) t) k) (m9 + 1))) (zs z 4 0)) H := va_cast' hP ew9
                      have hD : va_D A (mdW cA ad (gs g 7 (sdI (g 22) (g 11) t k (sdK (g 22) (g 11) (z 0) t (sdN (g 22) (g 11) (z 0) (upd (fillTo (g 7) (-1) 40) (q_n (g 23 a)) (nI 0)) t) k) (m9 + 1))) (zs z 4 0)) := va_castD hD ew9
                      exact zqJ161  (by omega) _ _ _ hP hD hS (lv_sub hl [0, 1, 2, 3, 4, 5] rfl)
          refine lv_iload hx hb dX6_degree_78 (lv_at hl 4 rfl) ?_
          refine lv_aload_n hx hb dX6_degree_80 rfl (lv_at hl 0 rfl) ?_
          refine q_get hx hb hT hown hK hP kw_X6 0 rfl rfl 0 (by decide) kf_X6_86 rfl (v := .int (nI (z 0))) rfl dX6_degree_81 ?_
          refine lv_icmp_ge (tgt := 173) hx hb dX6_degree_84 (by decide) (fun c_84 => ?_) (fun c_84 => ?_)
          · have c_84 := nI_le1 (a := z 0) (b := k) (by omega) (by omega) c_84
            refine lv_iinc (v := nI (t + 1)) (lv' := [(3, .int (nI (t + 1))), (0, .ref (ad 80)), (1, .int (nI a)), (2, .int (nI b)), (4, .int (nI k))]) hx hb dX6_degree_173 hl (k := 3) rfl (q_inc1 _) (by decide) rfl (fun ls hl => ?_)
            refine lv_goto (tgt := 69) hx hb dX6_degree_176 (by decide) ?_
            have ew9 : (mdW cA ad (gs g 7 (sdK (g 22) (g 11) (z 0) t (sdN (g 22) (g 11) (z 0) (upd (fillTo (g 7) (-1) 40) (q_n (g 23 a)) (nI 0)) t) k)) (zs z 4 0)) = (mdW cA ad (gs g 7 (sdN (g 22) (g 11) (z 0) (upd (fillTo (g 7) (-1) 40) (q_n (g 23 a)) (nI 0)) (t + 1))) (zs z 4 0)) := by first | with_reducible rfl | (first | (rw [show k = z 0 by omega, sdN_s]) | (rw [show k = 40 by omega, sdN_0]))
            have hP : va_P D vwCl (mdW cA ad (gs g 7 (sdN (g 22) (g 11) (z 0) (upd (fillTo (g 7) (-1) 40) (q_n (g 23 a)) (nI 0)) (t + 1))) (zs z 4 0)) H := va_cast' hP ew9
            have hD : va_D A (mdW cA ad (gs g 7 (sdN (g 22) (g 11) (z 0) (upd (fillTo (g 7) (-1) 40) (q_n (g 23 a)) (nI 0)) (t + 1))) (zs z 4 0)) := va_castD hD ew9
            exact ih69 (t + 1) (by omega) (by omega) _ _ _ hP hD hS (lv_sub hl [1, 2, 3, 0] rfl)
          · have c_84 := nI_le0 (a := z 0) (b := k) (by omega) (by omega) c_84
            refine lv_iconst (v := nI 0) hx hb dX6_degree_87 (by decide +kernel) ?_
            refine lv_istore (lv' := [(5, .int (nI 0)), (0, .ref (ad 80)), (1, .int (nI a)), (2, .int (nI b)), (3, .int (nI t)), (4, .int (nI k))]) hx hb dX6_degree_88 hl (by decide) rfl (fun ls hl => ?_)
            have ew9 : (mdW cA ad (gs g 7 (sdK (g 22) (g 11) (z 0) t (sdN (g 22) (g 11) (z 0) (upd (fillTo (g 7) (-1) 40) (q_n (g 23 a)) (nI 0)) t) k)) (zs z 4 0)) = (mdW cA ad (gs g 7 (sdI (g 22) (g 11) t k (sdK (g 22) (g 11) (z 0) t (sdN (g 22) (g 11) (z 0) (upd (fillTo (g 7) (-1) 40) (q_n (g 23 a)) (nI 0)) t) k) 0)) (zs z 4 0)) := by first | with_reducible rfl | (rw [sdI_0])
            have hP : va_P D vwCl (mdW cA ad (gs g 7 (sdI (g 22) (g 11) t k (sdK (g 22) (g 11) (z 0) t (sdN (g 22) (g 11) (z 0) (upd (fillTo (g 7) (-1) 40) (q_n (g 23 a)) (nI 0)) t) k) 0)) (zs z 4 0)) H := va_cast' hP ew9
            have hD : va_D A (mdW cA ad (gs g 7 (sdI (g 22) (g 11) t k (sdK (g 22) (g 11) (z 0) t (sdN (g 22) (g 11) (z 0) (upd (fillTo (g 7) (-1) 40) (q_n (g 23 a)) (nI 0)) t) k) 0)) (zs z 4 0)) := va_castD hD ew9
            exact zqL90 (z 0 + 1) 0 (by omega) (by omega) (by omega) _ _ _ hP hD hS (lv_sub hl [1, 2, 3, 4, 5, 0] rfl)
      refine lv_iload_n hx hb dX6_degree_69 rfl (lv_at hl 3 rfl) ?_
      refine lv_bipush (v := nI 16) hx hb dX6_degree_70 (by decide +kernel) ?_
      refine lv_icmp_ge (tgt := 179) hx hb dX6_degree_72 (by decide) (fun c_72 => ?_) (fun c_72 => ?_)
      · have c_72 := nI_le1 (a := 16) (b := t) (by omega) (by omega) c_72
        refine lv_aload_n hx hb dX6_degree_179 rfl (lv_at hl 0 rfl) ?_
        refine q_get hx hb hT hown hK hP kw_X6 0 rfl rfl 24 (by decide) kf_X6_73 rfl (v := .ref (ad 7)) rfl dX6_degree_180 ?_
        refine lv_aload_n hx hb dX6_degree_183 rfl (lv_at hl 0 rfl) ?_
        refine q_get hx hb hT hown hK hP kw_X6 0 rfl rfl 23 (by decide) kf_X6_70 rfl (v := .ref (ad 23)) rfl dX6_degree_184 ?_
        refine lv_iload_n hx hb dX6_degree_187 rfl (lv_at hl 2 rfl) ?_
        refine q_iald (f := g 23) hx hb hK hP 21 0 rfl rfl (b) rfl (by omega) (by omega) dX6_degree_188 ?_
        refine q_top (y := nI (q_n (g 23 b))) ((hLd b (by omega)).eq (by omega)) ?_
        refine q_iald (f := sdN (g 22) (g 11) (z 0) (upd (fillTo (g 7) (-1) 40) (q_n (g 23 a)) (nI 0)) t) hx hb hK hP 22 0 rfl rfl (q_n (g 23 b)) rfl ((hLd b (by omega)).lt (by omega)) (by omega) dX6_degree_189 ?_
        exact q_iret hx hb hr hlk (by rw [show t = 16 by omega]) (va_cast' hP (by rw [show t = 16 by omega])) hS dX6_degree_190
      · have c_72 := nI_le0 (a := 16) (b := t) (by omega) (by omega) c_72
        refine lv_iconst (v := nI 0) hx hb dX6_degree_75 (by decide +kernel) ?_
        refine lv_istore (lv' := [(4, .int (nI 0)), (0, .ref (ad 80)), (1, .int (nI a)), (2, .int (nI b)), (3, .int (nI t))]) hx hb dX6_degree_76 hl (by decide) rfl (fun ls hl => ?_)
        have ew9 : (mdW cA ad (gs g 7 (sdN (g 22) (g 11) (z 0) (upd (fillTo (g 7) (-1) 40) (q_n (g 23 a)) (nI 0)) t)) (zs z 4 0)) = (mdW cA ad (gs g 7 (sdK (g 22) (g 11) (z 0) t (sdN (g 22) (g 11) (z 0) (upd (fillTo (g 7) (-1) 40) (q_n (g 23 a)) (nI 0)) t) 0)) (zs z 4 0)) := by first | with_reducible rfl | (first | (rw [show m9 = z 0 by omega, sdK_s]) | rw [sdK_0])
        have hP : va_P D vwCl (mdW cA ad (gs g 7 (sdK (g 22) (g 11) (z 0) t (sdN (g 22) (g 11) (z 0) (upd (fillTo (g 7) (-1) 40) (q_n (g 23 a)) (nI 0)) t) 0)) (zs z 4 0)) H := va_cast' hP ew9
        have hD : va_D A (mdW cA ad (gs g 7 (sdK (g 22) (g 11) (z 0) t (sdN (g 22) (g 11) (z 0) (upd (fillTo (g 7) (-1) 40) (q_n (g 23 a)) (nI 0)) t) 0)) (zs z 4 0)) := va_castD hD ew9
        exact zqL78 (z 0 + 1) 0 (by omega) (by omega) (by omega) _ _ _ hP hD hS (lv_sub hl [1, 2, 3, 4, 0] rfl)
  have zqL36 : ∀ (fu : Nat), ∀ (k : Nat), (41 ≤ k + fu) → (k ≤ 40) → ∀ (H : Heap) (locs : List Loc) (ls : Array Slot), va_P D vwCl (mdW cA ad (gs g 7 (fillTo (g 7) (-1) k)) (zs z 4 0)) H → va_D A (mdW cA ad (gs g 7 (fillTo (g 7) (-1) k)) (zs z 4 0)) → va_S A s.heap H locs → lv_has ls 6 [(0, .ref (ad 80)), (1, .int (nI a)), (2, .int (nI b)), (3, .int (nI k))] → W p l e rm_X6_degree s m args below meth c H locs 0 0 (q_GI D ((sdN (g 22) (g 11) (z 0) (upd (fillTo (g 7) (-1) 40) (q_n (g 23 a)) (nI 0)) 16) (q_n (g 23 b))) (mdW cA ad (gs g 7 (sdN (g 22) (g 11) (z 0) (upd (fillTo (g 7) (-1) 40) (q_n (g 23 a)) (nI 0)) 16)) (zs z 4 0)) A below args s) (F0 m 36 ls []) := by
    intro fu
    induction fu with
    | zero =>
      intro k hfu hk H locs ls hP hD hS hl
      exfalso; omega
    | succ fu ih36 =>
      intro k hfu hk H locs ls hP hD hS hl
      refine lv_iload_n hx hb dX6_degree_36 rfl (lv_at hl 3 rfl) ?_
      refine lv_bipush (v := nI 40) hx hb dX6_degree_37 (by decide +kernel) ?_
      refine lv_icmp_ge (tgt := 55) hx hb dX6_degree_39 (by decide) (fun c_39 => ?_) (fun c_39 => ?_)
      · have c_39 := nI_le1 (a := 40) (b := k) (by omega) (by omega) c_39
        refine lv_aload_n hx hb dX6_degree_55 rfl (lv_at hl 0 rfl) ?_
        refine q_get hx hb hT hown hK hP kw_X6 0 rfl rfl 24 (by decide) kf_X6_73 rfl (v := .ref (ad 7)) rfl dX6_degree_56 ?_
        refine lv_aload_n hx hb dX6_degree_59 rfl (lv_at hl 0 rfl) ?_
        refine q_get hx hb hT hown hK hP kw_X6 0 rfl rfl 23 (by decide) kf_X6_70 rfl (v := .ref (ad 23)) rfl dX6_degree_60 ?_
        refine lv_iload_n hx hb dX6_degree_63 rfl (lv_at hl 1 rfl) ?_
        refine q_iald (f := g 23) hx hb hK hP 21 0 rfl rfl (a) rfl (by omega) (by omega) dX6_degree_64 ?_
        refine q_top (y := nI (q_n (g 23 a))) ((hLd a (by omega)).eq (by omega)) ?_
        refine lv_iconst (v := nI 0) hx hb dX6_degree_65 (by decide +kernel) ?_
        refine q_iast (f := fillTo (g 7) (-1) k) (ws1 := mdW cA ad (gs g 7 (upd (fillTo (g 7) (-1) k) (q_n (g 23 a)) (nI 0))) (zs z 4 0)) hx hb hK hP hD hS 22 0 rfl rfl (q_n (g 23 a)) rfl ((hLd a (by omega)).lt (by omega)) (by omega) rfl dX6_degree_66 (fun H locs hP hD hS => ?_)
        obtain ⟨nF66_7, enF66_7⟩ : ∃ y : Nat → Int32, y = upd (fillTo (g 7) (-1) k) (q_n (g 23 a)) (nI 0) := ⟨_, rfl⟩
        have hP : va_P D vwCl (mdW cA ad (gs g 7 nF66_7) (zs z 4 0)) H := by rw [enF66_7]; exact hP
        have hD : va_D A (mdW cA ad (gs g 7 nF66_7) (zs z 4 0)) := by rw [enF66_7]; exact hD
        refine lv_iconst (v := nI 0) hx hb dX6_degree_67 (by decide +kernel) ?_
        refine lv_istore_n (lv' := [(3, .int (nI 0)), (0, .ref (ad 80)), (1, .int (nI a)), (2, .int (nI b))]) hx hb dX6_degree_68 rfl hl (by decide) rfl (fun ls hl => ?_)
        rw [enF66_7] at hP hD
        have ew9 : (mdW cA ad (gs g 7 (upd (fillTo (g 7) (-1) k) (q_n (g 23 a)) (nI 0))) (zs z 4 0)) = (mdW cA ad (gs g 7 (sdN (g 22) (g 11) (z 0) (upd (fillTo (g 7) (-1) 40) (q_n (g 23 a)) (nI 0)) 0)) (zs z 4 0)) := by first | with_reducible rfl | (first | (rw [show k = z 0 by omega, sdN_s]) | (rw [show k = 40 by omega, sdN_0]))
        have hP : va_P D vwCl (mdW cA ad (gs g 7 (sdN (g 22) (g 11) (z 0) (upd (fillTo (g 7) (-1) 40) (q_n (g 23 a)) (nI 0)) 0)) (zs z 4 0)) H := va_cast' hP ew9
        have hD : va_D A (mdW cA ad (gs g 7 (sdN (g 22) (g 11) (z 0) (upd (fillTo (g 7) (-1) 40) (q_n (g 23 a)) (nI 0)) 0)) (zs z 4 0)) := va_castD hD ew9
        exact zqL69 (17) 0 (by omega) (by omega) _ _ _ hP hD hS (lv_sub hl [1, 2, 3, 0] rfl)
      · have c_39 := nI_le0 (a := 40) (b := k) (by omega) (by omega) c_39
        refine lv_aload_n hx hb dX6_degree_42 rfl (lv_at hl 0 rfl) ?_
        refine q_get hx hb hT hown hK hP kw_X6 0 rfl rfl 24 (by decide) kf_X6_73 rfl (v := .ref (ad 7)) rfl dX6_degree_43 ?_
        refine lv_iload_n hx hb dX6_degree_46 rfl (lv_at hl 3 rfl) ?_
        refine lv_iconst (v := (-1)) hx hb dX6_degree_47 (by decide +kernel) ?_
        refine q_iast (f := fillTo (g 7) (-1) k) (ws1 := mdW cA ad (gs g 7 (upd (fillTo (g 7) (-1) k) k (-1))) (zs z 4 0)) hx hb hK hP hD hS 22 0 rfl rfl (k) rfl (by omega) (by omega) rfl dX6_degree_48 (fun H locs hP hD hS => ?_)
        obtain ⟨nF48_7, enF48_7⟩ : ∃ y : Nat → Int32, y = upd (fillTo (g 7) (-1) k) k (-1) := ⟨_, rfl⟩
        have hP : va_P D vwCl (mdW cA ad (gs g 7 nF48_7) (zs z 4 0)) H := by rw [enF48_7]; exact hP
        have hD : va_D A (mdW cA ad (gs g 7 nF48_7) (zs z 4 0)) := by rw [enF48_7]; exact hD
        refine lv_iinc (v := nI (k + 1)) (lv' := [(3, .int (nI (k + 1))), (0, .ref (ad 80)), (1, .int (nI a)), (2, .int (nI b))]) hx hb dX6_degree_49 hl (k := 3) rfl (q_inc1 _) (by decide) rfl (fun ls hl => ?_)
        refine lv_goto (tgt := 36) hx hb dX6_degree_52 (by decide) ?_
        rw [enF48_7] at hP hD
        have ew9 : (mdW cA ad (gs g 7 (upd (fillTo (g 7) (-1) k) k (-1))) (zs z 4 0)) = (mdW cA ad (gs g 7 (fillTo (g 7) (-1) (k + 1))) (zs z 4 0)) := by first | with_reducible rfl | (first | rw [fillTo_s] | (rw [fillTo_0]; rfl))
        have hP : va_P D vwCl (mdW cA ad (gs g 7 (fillTo (g 7) (-1) (k + 1))) (zs z 4 0)) H := va_cast' hP ew9
        have hD : va_D A (mdW cA ad (gs g 7 (fillTo (g 7) (-1) (k + 1))) (zs z 4 0)) := va_castD hD ew9
        exact ih36 (k + 1) (by omega) (by omega) _ _ _ hP hD hS (lv_sub hl [1, 2, 3, 0] rfl)
  refine lv_aload_n hx hb dX6_degree_0 rfl (lv_at hl 0 rfl) ?_
  refine lv_aload_n hx hb dX6_degree_1 rfl (lv_at hl 0 rfl) ?_
  refine lv_iload_n hx hb dX6_degree_2 rfl (lv_at hl 1 rfl) ?_
  refine q_callIW (As := [.int (nI a)]) (r := q_b (mB (nI a) (z 2))) (w1 := mdW cA ad g z) hx hb hml hown hT hK hP hD hS hA (c_X6_isPerson l D cA ad g z (nI a) (show (z 2) ≤ 40 by omega)) k_X6_isPerson kl_X6_158 (q0 := 0) rfl rfl rfl ((mdW_adr _ _ _ _).trans (mdW_adr _ _ _ _).symm) hl rfl rfl (Nat.le_of_ble_eq_true rfl) ⟨⟨rfl, rfl⟩, Nat.le_of_ble_eq_true rfl, Nat.le_of_ble_eq_true rfl⟩ ⟨Nat.zero_le _, Nat.zero_le _⟩ dX6_degree_3 (fun H locs hP hD hS => ?_)
  refine lv_if_eq (tgt := 21) hx hb dX6_degree_6 (by decide) (fun c_6 => ?_) (fun c_6 => ?_)
  · have c_6 := q_b0e c_6
    exact absurd c_6 (mB_F (q_r_nI (by omega)) (by omega))
  · have c_6 := q_b0n c_6
    refine lv_aload_n hx hb dX6_degree_9 rfl (lv_at hl 0 rfl) ?_
    refine lv_iload_n hx hb dX6_degree_10 rfl (lv_at hl 2 rfl) ?_
    refine q_callIW (As := [.int (nI b)]) (r := q_b (mB (nI b) (z 2))) (w1 := mdW cA ad g z) hx hb hml hown hT hK hP hD hS hA (c_X6_isPerson l D cA ad g z (nI b) (show (z 2) ≤ 40 by omega)) k_X6_isPerson kl_X6_158 (q0 := 0) rfl rfl rfl ((mdW_adr _ _ _ _).trans (mdW_adr _ _ _ _).symm) hl rfl rfl (Nat.le_of_ble_eq_true rfl) ⟨⟨rfl, rfl⟩, Nat.le_of_ble_eq_true rfl, Nat.le_of_ble_eq_true rfl⟩ ⟨Nat.zero_le _, Nat.zero_le _⟩ dX6_degree_11 (fun H locs hP hD hS => ?_)
    refine lv_if_eq (tgt := 21) hx hb dX6_degree_14 (by decide) (fun c_14 => ?_) (fun c_14 => ?_)
    · have c_14 := q_b0e c_14
      exact absurd c_14 (mB_F (q_r_nI (by omega)) (by omega))
    · have c_14 := q_b0n c_14
      refine lv_iconst (v := nI 0) hx hb dX6_degree_17 (by decide +kernel) ?_
      refine lv_goto (tgt := 22) hx hb dX6_degree_18 (by decide) ?_
      refine q_put (ty := .int) (ws1 := mdW cA ad g (zs z 4 0)) hx hb hT hown hK hP hD hS kw_X6 tyX6_ok nmX6 0 rfl rfl 27 (by decide) kf_X6_82 rfl rfl (by decide +kernel) rfl rfl (Nat.le_of_ble_eq_true rfl) rfl dX6_degree_22 (fun H locs hP hD hS => ?_)
      refine lv_aload_n hx hb dX6_degree_25 rfl (lv_at hl 0 rfl) ?_
      refine q_get hx hb hT hown hK hP kw_X6 0 rfl rfl 27 (by decide) kf_X6_82 rfl (v := .int (nI 0)) rfl dX6_degree_26 ?_
      refine lv_if_le (tgt := 34) hx hb dX6_degree_29 (by decide) (fun c_29 => ?_) (fun c_29 => ?_)
      · have c_29 := nI_le1 (a := 0) (b := 0) (by omega) (by omega) c_29
        refine lv_iconst (v := nI 0) hx hb dX6_degree_34 (by decide +kernel) ?_
        refine lv_istore_n (lv' := [(3, .int (nI 0)), (0, .ref (ad 80)), (1, .int (nI a)), (2, .int (nI b))]) hx hb dX6_degree_35 rfl hl (by decide) rfl (fun ls hl => ?_)
        have ew9 : (mdW cA ad g (zs z 4 0)) = (mdW cA ad (gs g 7 (fillTo (g 7) (-1) 0)) (zs z 4 0)) := by first | with_reducible rfl | (first | rw [fillTo_s] | (rw [fillTo_0]; rfl))
        have hP : va_P D vwCl (mdW cA ad (gs g 7 (fillTo (g 7) (-1) 0)) (zs z 4 0)) H := va_cast' hP ew9
        have hD : va_D A (mdW cA ad (gs g 7 (fillTo (g 7) (-1) 0)) (zs z 4 0)) := va_castD hD ew9
        exact zqL36 (41) 0 (by omega) (by omega) _ _ _ hP hD hS (lv_sub hl [1, 2, 3, 0] rfl)
      · have c_29 := nI_le0 (a := 0) (b := 0) (by omega) (by omega) c_29
        exfalso; omega
abbrev rm_X6_degreex : Room := { frames := 2, cells := 0, slots := 0, locals := 43 }
set_option maxRecDepth 100000 in
set_option maxHeartbeats 4000000 in
theorem c_X6_degreex (l : Launch) (D : va_G) (cA : ClassId) (ad : Nat → Nat) (g : Nat → Nat → Int32) (z : Nat → Nat) (x : Int32) (y : Int32) (h12 : ¬ (q_r x (z 2) ∧ q_r y (z 2))) (hm9 : (z 2) ≤ 40) : q_CI l yX6_degree [Cond.code yX6_degree cX6_degree 6 (some .int)] rm_X6_degreex D cA [.ref (ad 80), .int x, .int y] (mdW cA ad g z) (nI 0) (mdW cA ad g (zs z 4 1)) := by
  refine q_startI RX6 (by decide +kernel) rfl (Nat.le_of_ble_eq_true rfl) ?_
  intro p e s m below meth c A args H locs ls hx hb hr hml hown hT hlk hP hK hD hA hS hl
  have hl : lv_has ls 6 [(0, .ref (ad 80)), (1, .int x), (2, .int y)] := hl
  refine lv_aload_n hx hb dX6_degree_0 rfl (lv_at hl 0 rfl) ?_
  refine lv_aload_n hx hb dX6_degree_1 rfl (lv_at hl 0 rfl) ?_
  refine lv_iload_n hx hb dX6_degree_2 rfl (lv_at hl 1 rfl) ?_
  refine q_callIW (As := [.int x]) (r := q_b (mB x (z 2))) (w1 := mdW cA ad g z) hx hb hml hown hT hK hP hD hS hA (c_X6_isPerson l D cA ad g z x (show (z 2) ≤ 40 by omega)) k_X6_isPerson kl_X6_158 (q0 := 0) rfl rfl rfl ((mdW_adr _ _ _ _).trans (mdW_adr _ _ _ _).symm) hl rfl rfl (Nat.le_of_ble_eq_true rfl) ⟨⟨rfl, rfl⟩, Nat.le_of_ble_eq_true rfl, Nat.le_of_ble_eq_true rfl⟩ ⟨Nat.zero_le _, Nat.zero_le _⟩ dX6_degree_3 (fun H locs hP hD hS => ?_)
  refine lv_if_eq (tgt := 21) hx hb dX6_degree_6 (by decide) (fun c_6 => ?_) (fun c_6 => ?_)
  · have c_6 := q_b0e c_6
    refine lv_iconst (v := nI 1) hx hb dX6_degree_21 (by decide +kernel) ?_
    refine q_put (ty := .int) (ws1 := mdW cA ad g (zs z 4 1)) hx hb hT hown hK hP hD hS kw_X6 tyX6_ok nmX6 0 rfl rfl 27 (by decide) kf_X6_82 rfl rfl (by decide +kernel) rfl rfl (Nat.le_of_ble_eq_true rfl) rfl dX6_degree_22 (fun H locs hP hD hS => ?_)
    refine lv_aload_n hx hb dX6_degree_25 rfl (lv_at hl 0 rfl) ?_
    refine q_get hx hb hT hown hK hP kw_X6 0 rfl rfl 27 (by decide) kf_X6_82 rfl (v := .int (nI 1)) rfl dX6_degree_26 ?_
    refine lv_if_le (tgt := 34) hx hb dX6_degree_29 (by decide) (fun c_29 => ?_) (fun c_29 => ?_)
    · have c_29 := nI_le1 (a := 1) (b := 0) (by omega) (by omega) c_29
      exfalso; omega
    · have c_29 := nI_le0 (a := 1) (b := 0) (by omega) (by omega) c_29
      refine lv_iconst (v := nI 0) hx hb dX6_degree_32 (by decide +kernel) ?_
      exact q_iret hx hb hr hlk (by rfl) hP hS dX6_degree_33
  · have c_6 := q_b0n c_6
    refine lv_aload_n hx hb dX6_degree_9 rfl (lv_at hl 0 rfl) ?_
    refine lv_iload_n hx hb dX6_degree_10 rfl (lv_at hl 2 rfl) ?_
    refine q_callIW (As := [.int y]) (r := q_b (mB y (z 2))) (w1 := mdW cA ad g z) hx hb hml hown hT hK hP hD hS hA (c_X6_isPerson l D cA ad g z y (show (z 2) ≤ 40 by omega)) k_X6_isPerson kl_X6_158 (q0 := 0) rfl rfl rfl ((mdW_adr _ _ _ _).trans (mdW_adr _ _ _ _).symm) hl rfl rfl (Nat.le_of_ble_eq_true rfl) ⟨⟨rfl, rfl⟩, Nat.le_of_ble_eq_true rfl, Nat.le_of_ble_eq_true rfl⟩ ⟨Nat.zero_le _, Nat.zero_le _⟩ dX6_degree_11 (fun H locs hP hD hS => ?_)
    refine lv_if_eq (tgt := 21) hx hb dX6_degree_14 (by decide) (fun c_14 => ?_) (fun c_14 => ?_)
    · have c_14 := q_b0e c_14
      refine lv_iconst (v := nI 1) hx hb dX6_degree_21 (by decide +kernel) ?_
      refine q_put (ty := .int) (ws1 := mdW cA ad g (zs z 4 1)) hx hb hT hown hK hP hD hS kw_X6 tyX6_ok nmX6 0 rfl rfl 27 (by decide) kf_X6_82 rfl rfl (by decide +kernel) rfl rfl (Nat.le_of_ble_eq_true rfl) rfl dX6_degree_22 (fun H locs hP hD hS => ?_)
      refine lv_aload_n hx hb dX6_degree_25 rfl (lv_at hl 0 rfl) ?_
      refine q_get hx hb hT hown hK hP kw_X6 0 rfl rfl 27 (by decide) kf_X6_82 rfl (v := .int (nI 1)) rfl dX6_degree_26 ?_
      refine lv_if_le (tgt := 34) hx hb dX6_degree_29 (by decide) (fun c_29 => ?_) (fun c_29 => ?_)
      · have c_29 := nI_le1 (a := 1) (b := 0) (by omega) (by omega) c_29
        exfalso; omega
      · have c_29 := nI_le0 (a := 1) (b := 0) (by omega) (by omega) c_29
        refine lv_iconst (v := nI 0) hx hb dX6_degree_32 (by decide +kernel) ?_
        exact q_iret hx hb hr hlk (by rfl) hP hS dX6_degree_33
    · have c_14 := q_b0n c_14
      exact absurd ⟨mB_t c_6 (by omega), mB_t c_14 (by omega)⟩ h12
