/-! the class's and the reference's passes, as whole numbers -/
def zI (F : Nat → Int32) (j : Nat) : Int := (F j).toInt
def zN (F : Nat → Int32) (j : Nat) : Int := -(F j).toInt
def zQ (A : Nat → Int32) (j : Nat) : Nat := q_n (A j)
def wB (W : Nat → Int32) (t : Nat) : Prop := ∀ k, k < t → -50 ≤ (W k).toInt ∧ (W k).toInt ≤ 50
def bB (n : Nat) (M : Int) (F : Nat → Int32) : Prop := ∀ j, j < n → -M ≤ (F j).toInt ∧ (F j).toInt ≤ M
section YB
variable {A B W F L : Nat → Int32} {n t : Nat} {M : Int}
theorem zb_F (hE : yE (zQ A) (zQ B) t n) (hw : wB W t) (hF : bB n M F) (hM : M + 50 * t ≤ 1000000000) (h0 : 0 ≤ M) : ∀ k, k ≤ t → (∀ j, zI (psF A B W F k) j = yF (zQ A) (zQ B) (zI W) (zI F) k j) ∧ bB n (M + 50 * k) (psF A B W F k)
  | 0, _ => ⟨fun _ => rfl, fun j hj => by have := hF j hj; show _ ≤ (F j).toInt ∧ (F j).toInt ≤ _; omega⟩
  | k + 1, hk => by
    obtain ⟨e, bd⟩ := zb_F hE hw hF hM h0 k (by omega)
    have ba := bd _ (hE k (by omega)).1
    have bb := bd _ (hE k (by omega)).2
    have hwk := hw k (by omega)
    have hs : (psF A B W F k (q_n (A k)) + W k).toInt = (psF A B W F k (q_n (A k))).toInt + (W k).toInt := by
      have : zQ A k = q_n (A k) := rfl
      rw [this] at ba
      exact zz_add (by omega) (by omega)
    have ea := e (zQ A k)
    have eb := e (zQ B k)
    have c : psF A B W F k (q_n (B k)) < psF A B W F k (q_n (A k)) + W k ↔ yF (zQ A) (zQ B) (zI W) (zI F) k (zQ B k) < yF (zQ A) (zQ B) (zI W) (zI F) k (zQ A k) + zI W k := by
      rw [zz_lt, hs, ← ea, ← eb]
      exact Iff.rfl
    rw [psF, yF]
    by_cases h : psF A B W F k (q_n (B k)) < psF A B W F k (q_n (A k)) + W k
    · rw [if_pos h, if_pos (c.1 h)]
      refine ⟨fun j => ?_, fun j hj => ?_⟩
      · show (upd (psF A B W F k) (q_n (B k)) (psF A B W F k (q_n (A k)) + W k) j).toInt = zU (yF (zQ A) (zQ B) (zI W) (zI F) k) (zQ B k) (yF (zQ A) (zQ B) (zI W) (zI F) k (zQ A k) + zI W k) j
        simp only [upd, zU]
        by_cases ej : j = q_n (B k)
        · rw [if_pos ej, if_pos (show j = zQ B k from ej), hs, ← ea]; rfl
        · rw [if_neg ej, if_neg (show ¬ j = zQ B k from ej)]; exact e j
      · show _ ≤ (upd (psF A B W F k) (q_n (B k)) (psF A B W F k (q_n (A k)) + W k) j).toInt ∧ (upd (psF A B W F k) (q_n (B k)) (psF A B W F k (q_n (A k)) + W k) j).toInt ≤ _
        simp only [upd]
        have e9 : zQ A k = q_n (A k) := rfl
        rw [e9] at ba
        by_cases ej : j = q_n (B k)
        · rw [if_pos ej, hs]; omega
        · rw [if_neg ej]
          have := bd j hj
          omega
    · rw [if_neg h, if_neg (fun z => h (c.2 z))]
      exact ⟨e, fun j hj => by have := bd j hj; omega⟩
theorem zb_L (hE : yE (zQ A) (zQ B) t n) (hw : wB W t) (hF : bB n M L) (hM : M + 50 * t ≤ 1000000000) (h0 : 0 ≤ M) : ∀ k, k ≤ t → (∀ j, zN (psL A B W L k) j = yF (zQ B) (zQ A) (zI W) (zN L) k j) ∧ bB n (M + 50 * k) (psL A B W L k)
  | 0, _ => ⟨fun _ => rfl, fun j hj => by have := hF j hj; show _ ≤ (L j).toInt ∧ (L j).toInt ≤ _; omega⟩
  | k + 1, hk => by
    obtain ⟨e, bd⟩ := zb_L hE hw hF hM h0 k (by omega)
    have ba := bd _ (hE k (by omega)).1
    have bb := bd _ (hE k (by omega)).2
    have hwk := hw k (by omega)
    have e9 : zQ B k = q_n (B k) := rfl
    rw [e9] at bb
    have hs : (psL A B W L k (q_n (B k)) - W k).toInt = (psL A B W L k (q_n (B k))).toInt - (W k).toInt := zz_sub (by omega) (by omega)
    have ea := e (zQ A k)
    have eb := e (zQ B k)
    have c : psL A B W L k (q_n (B k)) - W k < psL A B W L k (q_n (A k)) ↔ yF (zQ B) (zQ A) (zI W) (zN L) k (zQ A k) < yF (zQ B) (zQ A) (zI W) (zN L) k (zQ B k) + zI W k := by
      rw [zz_lt, hs, ← ea, ← eb]
      show (psL A B W L k (q_n (B k))).toInt - (W k).toInt < (psL A B W L k (q_n (A k))).toInt ↔ -(psL A B W L k (q_n (A k))).toInt < -(psL A B W L k (q_n (B k))).toInt + (W k).toInt
      omega
    rw [psL, yF]
    by_cases h : psL A B W L k (q_n (B k)) - W k < psL A B W L k (q_n (A k))
    · rw [if_pos h, if_pos (c.1 h)]
      refine ⟨fun j => ?_, fun j hj => ?_⟩
      · show -(upd (psL A B W L k) (q_n (A k)) (psL A B W L k (q_n (B k)) - W k) j).toInt = zU (yF (zQ B) (zQ A) (zI W) (zN L) k) (zQ A k) (yF (zQ B) (zQ A) (zI W) (zN L) k (zQ B k) + zI W k) j
        simp only [upd, zU]
        by_cases ej : j = q_n (A k)
        · rw [if_pos ej, if_pos (show j = zQ A k from ej), hs, ← eb]
          show -((psL A B W L k (q_n (B k))).toInt - (W k).toInt) = -(psL A B W L k (q_n (B k))).toInt + (W k).toInt
          omega
        · rw [if_neg ej, if_neg (show ¬ j = zQ A k from ej)]; exact e j
      · show _ ≤ (upd (psL A B W L k) (q_n (A k)) (psL A B W L k (q_n (B k)) - W k) j).toInt ∧ (upd (psL A B W L k) (q_n (A k)) (psL A B W L k (q_n (B k)) - W k) j).toInt ≤ _
        simp only [upd]
        by_cases ej : j = q_n (A k)
        · rw [if_pos ej, hs]; omega
        · rw [if_neg ej]
          have := bd j hj
          omega
    · rw [if_neg h, if_neg (fun z => h (c.2 z))]
      exact ⟨e, fun j hj => by have := bd j hj; omega⟩
/-- nothing is pushed just if all tellings are so -/
theorem zb_C (hE : yE (zQ A) (zQ B) t n) (hw : wB W t) (hF : bB n M F) (hL : bB n M L) (hM : M + 50 * t ≤ 1000000000) (h0 : 0 ≤ M) : psC A B W F L t = false ↔ yP (zQ A) (zQ B) (zI W) t (zI F) ∧ yP (zQ B) (zQ A) (zI W) t (zN L) := by
  constructor
  · intro h
    obtain ⟨e1, e2⟩ := ps_0 A B W F L t h
    have b1 := (zb_F hE hw hF hM h0 t (Nat.le_refl t)).1
    have b2 := (zb_L hE hw hL hM h0 t (Nat.le_refl t)).1
    rw [e1] at b1
    rw [e2] at b2
    exact ⟨yP_of hE (fun j _ => by rw [← b1 j]; exact Int.le_refl _), yP_of (yE_sw hE) (fun j _ => by rw [← b2 j]; exact Int.le_refl _)⟩
  · rintro ⟨h1, h2⟩
    have key : ∀ k, k ≤ t → psC A B W F L k = false := by
      intro k
      induction k with
      | zero => exact fun _ => rfl
      | succ k ih =>
        intro hk
        have ih := ih (by omega)
        obtain ⟨e1, e2⟩ := ps_0 A B W F L k ih
        rw [psC, ih, e1, e2, Bool.false_or, Bool.or_eq_false_iff, decide_eq_false_iff_not, decide_eq_false_iff_not]
        have ba := hF _ (hE k (by omega)).1
        have bb := hL _ (hE k (by omega)).2
        have e8 : zQ A k = q_n (A k) := rfl
        have e9 : zQ B k = q_n (B k) := rfl
        rw [e8] at ba
        rw [e9] at bb
        have hwk := hw k (by omega)
        have g1 : (F (q_n (A k))).toInt + (W k).toInt ≤ (F (q_n (B k))).toInt := h1 k (by omega)
        have g2 : -(L (q_n (B k))).toInt + (W k).toInt ≤ -(L (q_n (A k))).toInt := h2 k (by omega)
        rw [zz_lt, zz_lt, zz_add (by omega) (by omega), zz_sub (by omega) (by omega)]
        omega
    exact key t (Nat.le_refl t)
theorem bB_mono {M2 : Int} (h : bB n M F) (h2 : M ≤ M2) : bB n M2 F := fun j hj => by have := h j hj; omega
theorem zI_it (hE : yE (zQ A) (zQ B) t n) (hw : wB W t) (hF : bB n 1000 F) (ht : t ≤ 40) : ∀ r : Nat, r ≤ 16 → (∀ j, zI (itF A B W F t r) j = yI (zQ A) (zQ B) (zI W) (zI F) t r j) ∧ bB n (1000 + 2000 * r) (itF A B W F t r)
  | 0, _ => ⟨fun _ => rfl, fun j hj => by have := hF j hj; show _ ≤ (F j).toInt ∧ (F j).toInt ≤ _; omega⟩
  | r + 1, hr => by
    obtain ⟨e, bd⟩ := zI_it hE hw hF ht r (by omega)
    obtain ⟨e2, bd2⟩ := zb_F hE hw bd (by omega) (by omega) t (Nat.le_refl t)
    refine ⟨fun j => ?_, bB_mono bd2 (by omega)⟩
    rw [itF, yI, ← show zI (itF A B W F t r) = yI (zQ A) (zQ B) (zI W) (zI F) t r from funext e]
    exact e2 j
theorem zN_it (hE : yE (zQ A) (zQ B) t n) (hw : wB W t) (hF : bB n 1000 L) (ht : t ≤ 40) : ∀ r : Nat, r ≤ 16 → (∀ j, zN (itL A B W L t r) j = yI (zQ B) (zQ A) (zI W) (zN L) t r j) ∧ bB n (1000 + 2000 * r) (itL A B W L t r)
  | 0, _ => ⟨fun _ => rfl, fun j hj => by have := hF j hj; show _ ≤ (L j).toInt ∧ (L j).toInt ≤ _; omega⟩
  | r + 1, hr => by
    obtain ⟨e, bd⟩ := zN_it hE hw hF ht r (by omega)
    obtain ⟨e2, bd2⟩ := zb_L hE hw bd (by omega) (by omega) t (Nat.le_refl t)
    refine ⟨fun j => ?_, bB_mono bd2 (by omega)⟩
    rw [itL, yI, ← show zN (itL A B W L t r) = yI (zQ B) (zQ A) (zI W) (zN L) t r from funext e]
    exact e2 j
end YB
/-! there is a dating; the least first years, the greatest last years -/
def dtg (A B W lo hi : Nat → Int32) (t n : Nat) (X : Nat → Int) : Prop := yP (zQ A) (zQ B) (zI W) t X ∧ yL n (zI lo) X ∧ yL n X (zI hi)
def lsF (A B W lo : Nat → Int32) (t n : Nat) (F : Nat → Int32) : Prop := yM (zQ A) (zQ B) (zI W) t n (zI lo) (zI F)
def lsL (A B W hi : Nat → Int32) (t n : Nat) (L : Nat → Int32) : Prop := yM (zQ B) (zQ A) (zI W) t n (zN hi) (zN L)
def yOK (A B W lo hi : Nat → Int32) (t n : Nat) : Prop := yE (zQ A) (zQ B) t n ∧ wB W t ∧ (∀ j, j < n → 0 ≤ (lo j).toInt ∧ (lo j).toInt ≤ 999 ∧ 0 ≤ (hi j).toInt ∧ (hi j).toInt ≤ 999)
section YC
variable {A B W lo hi : Nat → Int32} {n t : Nat}
theorem yok_lo (h : yOK A B W lo hi t n) : bB n 1000 lo := fun j hj => by have := h.2.2 j hj; omega
theorem yok_hi (h : yOK A B W lo hi t n) : bB n 1000 hi := fun j hj => by have := h.2.2 j hj; omega
theorem cl_1 (h : yOK A B W lo hi t n) (hn : n ≤ 16) (ht : t ≤ 40) (hx : ∀ j, n ≤ j → j < 16 → lo j ≤ hi j) (hd : ∃ X, dtg A B W lo hi t n X) : dOK A B W lo hi t = true ∧ lsF A B W lo t n (itF A B W lo t 16) ∧ lsL A B W hi t n (itL A B W hi t 16) := by
  obtain ⟨X, h1, h2, h3⟩ := hd
  obtain ⟨hE, hw, hb⟩ := h
  have hlo := yok_lo ⟨hE, hw, hb⟩
  have hhi := yok_hi ⟨hE, hw, hb⟩
  obtain ⟨P, hP⟩ := y_ex hE h1 h2
  obtain ⟨N, hN⟩ := y_ex (lo := zN hi) (yE_sw hE) (yP_neg h1) (fun j hj => by have := h3 j hj; show -(hi j).toInt ≤ -X j; have e : zI hi j = (hi j).toInt := rfl; omega)
  obtain ⟨e15, b15⟩ := zI_it hE hw hlo ht 15 (by omega)
  obtain ⟨f15, c15⟩ := zN_it hE hw hhi ht 15 (by omega)
  obtain ⟨e16, b16⟩ := zI_it hE hw hlo ht 16 (by omega)
  obtain ⟨f16, c16⟩ := zN_it hE hw hhi ht 16 (by omega)
  have p15 : yP (zQ A) (zQ B) (zI W) t (zI (itF A B W lo t 15)) := by rw [funext e15]; exact y_doneP hP hE (by omega)
  have n15 : yP (zQ B) (zQ A) (zI W) t (zN (itL A B W hi t 15)) := by rw [funext f15]; exact y_doneP hN (yE_sw hE) (by omega)
  have hC : itC A B W lo hi t 15 = false := (zb_C hE hw (M := 31000) (bB_mono b15 (by omega)) (bB_mono c15 (by omega)) (by omega) (by omega)).2 ⟨p15, n15⟩
  have hF : lsF A B W lo t n (itF A B W lo t 16) := by
    refine ⟨by rw [funext e16]; exact y_doneP hP hE (by omega), fun j hj => ?_, fun G hG hl j hj => ?_⟩
    · rw [e16 j]; exact yI_up _ j 16
    · rw [e16 j]; exact yI_le hE hG hl 16 j hj
  have hL : lsL A B W hi t n (itL A B W hi t 16) := by
    refine ⟨by rw [funext f16]; exact y_doneP hN (yE_sw hE) (by omega), fun j hj => ?_, fun G hG hl j hj => ?_⟩
    · rw [f16 j]; exact yI_up _ j 16
    · rw [f16 j]; exact yI_le (yE_sw hE) hG hl 16 j hj
  refine ⟨dOK_t (itR_t (by omega) hC) (leB_t (fun j hj => ?_)), hF, hL⟩
  rcases Nat.lt_or_ge j n with q | q
  · have g1 := hF.2.2 X h1 h2 j q
    have g2 := hL.2.2 _ (yP_neg h1) (fun i hi2 => by have := h3 i hi2; show -(hi i).toInt ≤ -X i; have e : zI hi i = (hi i).toInt := rfl; omega) j q
    rw [zz_le]
    have e1 : zI (itF A B W lo t 16) j = (itF A B W lo t 16 j).toInt := rfl
    have e2 : zN (itL A B W hi t 16) j = -(itL A B W hi t 16 j).toInt := rfl
    have g3 : zN (itL A B W hi t 16) j ≤ -X j := g2
    omega
  · have out : ∀ r, itF A B W lo t r j = lo j ∧ itL A B W hi t r j = hi j := by
      have o1 : ∀ (F : Nat → Int32) k, k ≤ t → psF A B W F k j = F j := by
        intro F k
        induction k with
        | zero => exact fun _ => rfl
        | succ k ih =>
          intro hk
          have h9 := (hE k (by omega)).2
          have e9 : zQ B k = q_n (B k) := rfl
          rw [psF]
          split
          · simp only [upd]; rw [if_neg (by omega), ih (by omega)]
          · exact ih (by omega)
      have o2 : ∀ (F : Nat → Int32) k, k ≤ t → psL A B W F k j = F j := by
        intro F k
        induction k with
        | zero => exact fun _ => rfl
        | succ k ih =>
          intro hk
          have h9 := (hE k (by omega)).1
          have e9 : zQ A k = q_n (A k) := rfl
          rw [psL]
          split
          · simp only [upd]; rw [if_neg (by omega), ih (by omega)]
          · exact ih (by omega)
      intro r
      induction r with
      | zero => exact ⟨rfl, rfl⟩
      | succ r ih => exact ⟨by rw [itF, o1 _ t (Nat.le_refl t), ih.1], by rw [itL, o2 _ t (Nat.le_refl t), ih.2]⟩
    rw [(out 16).1, (out 16).2]
    exact hx j q hj
theorem it_out (hE : yE (zQ A) (zQ B) t n) {j : Nat} (hj : n ≤ j) : ∀ r, itF A B W lo t r j = lo j ∧ itL A B W hi t r j = hi j := by
  have o1 : ∀ (F : Nat → Int32) k, k ≤ t → psF A B W F k j = F j := by
    intro F k
    induction k with
    | zero => exact fun _ => rfl
    | succ k ih =>
      intro hk
      have h9 := (hE k (by omega)).2
      have e9 : zQ B k = q_n (B k) := rfl
      rw [psF]
      split
      · simp only [upd]; rw [if_neg (by omega), ih (by omega)]
      · exact ih (by omega)
  have o2 : ∀ (F : Nat → Int32) k, k ≤ t → psL A B W F k j = F j := by
    intro F k
    induction k with
    | zero => exact fun _ => rfl
    | succ k ih =>
      intro hk
      have h9 := (hE k (by omega)).1
      have e9 : zQ A k = q_n (A k) := rfl
      rw [psL]
      split
      · simp only [upd]; rw [if_neg (by omega), ih (by omega)]
      · exact ih (by omega)
  intro r
  induction r with
  | zero => exact ⟨rfl, rfl⟩
  | succ r ih => exact ⟨by rw [itF, o1 _ t (Nat.le_refl t), ih.1], by rw [itL, o2 _ t (Nat.le_refl t), ih.2]⟩
theorem cl_2 (h : yOK A B W lo hi t n) (hn : n ≤ 16) (ht : t ≤ 40) (hd : dOK A B W lo hi t = true) : ∃ X, dtg A B W lo hi t n X := by
  obtain ⟨hE, hw, hb⟩ := h
  have hlo := yok_lo ⟨hE, hw, hb⟩
  have hhi := yok_hi ⟨hE, hw, hb⟩
  rw [dOK, Bool.and_eq_true] at hd
  obtain ⟨hR, hle⟩ := hd
  obtain ⟨r, hr, hC⟩ := itR_iff.1 hR
  obtain ⟨e, b⟩ := zI_it hE hw hlo ht r (by omega)
  obtain ⟨f, c⟩ := zN_it hE hw hhi ht r (by omega)
  have hp := (zb_C hE hw (M := 33000) (bB_mono b (by omega)) (bB_mono c (by omega)) (by omega) (by omega)).1 hC
  obtain ⟨i1, i2⟩ := it_0 hC (16 - r)
  rw [show r + (16 - r) = 16 by omega] at i1 i2
  rw [i1, i2] at hle
  refine ⟨zI (itF A B W lo t r), hp.1, fun j hj => ?_, fun j hj => ?_⟩
  · rw [e j]; exact yI_up _ j r
  · have g1 := of_decide_eq_true hle j (by omega)
    have g2 : zN hi j ≤ zN (itL A B W hi t r) j := by rw [f j]; exact yI_up _ j r
    rw [zz_le] at g1
    have e1 : zI (itF A B W lo t r) j = (itF A B W lo t r j).toInt := rfl
    have e2 : zN (itL A B W hi t r) j = -(itL A B W hi t r j).toInt := rfl
    have e3 : zN hi j = -(hi j).toInt := rfl
    have e4 : zI hi j = (hi j).toInt := rfl
    omega
end YC
