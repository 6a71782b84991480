/-! whole numbers: sums that fit -/
theorem zz_rng (x : Int32) : -2147483648 ≤ x.toInt ∧ x.toInt < 2147483648 := by
  have h1 := Int32.le_toInt x
  have h2 := Int32.toInt_lt x
  omega
theorem zz_bmod {z : Int} (h1 : -2147483648 ≤ z) (h2 : z < 2147483648) : z.bmod (2 ^ 32) = z := by
  rw [Int.bmod_eq_of_le (by omega) (by omega)]
theorem zz_add {x y : Int32} (h1 : -2147483648 ≤ x.toInt + y.toInt) (h2 : x.toInt + y.toInt < 2147483648) : (x + y).toInt = x.toInt + y.toInt := by
  rw [Int32.toInt_add, zz_bmod h1 h2]
theorem zz_sub {x y : Int32} (h1 : -2147483648 ≤ x.toInt - y.toInt) (h2 : x.toInt - y.toInt < 2147483648) : (x - y).toInt = x.toInt - y.toInt := by
  rw [Int32.toInt_sub, zz_bmod h1 h2]
theorem zz_lt {x y : Int32} : x < y ↔ x.toInt < y.toInt := Int32.lt_iff_toInt_lt
theorem zz_le {x y : Int32} : x ≤ y ↔ x.toInt ≤ y.toInt := Int32.le_iff_toInt_le
theorem zz_eq {x y : Int32} : x = y ↔ x.toInt = y.toInt := ⟨fun h => h ▸ rfl, fun h => Int32.toInt_inj.mp h⟩
/-! tellings k < t: from a k to b k by w k; passes that push up -/
def zU (F : Nat → Int) (k : Nat) (x : Int) (j : Nat) : Int := if j = k then x else F j
def yF (a b : Nat → Nat) (w : Nat → Int) (F : Nat → Int) : Nat → Nat → Int
  | 0 => F
  | k + 1 => if yF a b w F k (b k) < yF a b w F k (a k) + w k then zU (yF a b w F k) (b k) (yF a b w F k (a k) + w k) else yF a b w F k
def yI (a b : Nat → Nat) (w : Nat → Int) (F : Nat → Int) (t : Nat) : Nat → Nat → Int
  | 0 => F
  | r + 1 => yF a b w (yI a b w F t r) t
/-- all tellings are so -/
def yP (a b : Nat → Nat) (w : Nat → Int) (t : Nat) (X : Nat → Int) : Prop := ∀ k, k < t → X (a k) + w k ≤ X (b k)
def yE (a b : Nat → Nat) (t n : Nat) : Prop := ∀ k, k < t → a k < n ∧ b k < n
def yL (n : Nat) (F G : Nat → Int) : Prop := ∀ j, j < n → F j ≤ G j
section YY
variable {a b : Nat → Nat} {w : Nat → Int} {t n : Nat}
theorem yF_s (F : Nat → Int) (k j : Nat) : yF a b w F k j ≤ yF a b w F (k + 1) j := by
  rw [yF]
  split
  · rename_i h
    simp only [zU]
    split
    · rename_i e
      subst e
      omega
    · exact Int.le_refl _
  · exact Int.le_refl _
theorem yF_m (F : Nat → Int) (k j : Nat) : ∀ d, yF a b w F k j ≤ yF a b w F (k + d) j
  | 0 => Int.le_refl _
  | d + 1 => Int.le_trans (yF_m F k j d) (yF_s F (k + d) j)
theorem yF_up (F : Nat → Int) (k j : Nat) : F j ≤ yF a b w F k j := by
  have h := yF_m (a := a) (b := b) (w := w) F 0 j k
  rwa [Nat.zero_add] at h
theorem yF_ed (F : Nat → Int) (k : Nat) : yF a b w F k (a k) + w k ≤ yF a b w F (k + 1) (b k) := by
  rw [yF]
  split
  · simp [zU]
  · omega
theorem yF_te (F : Nat → Int) {k : Nat} (hk : k < t) : F (a k) + w k ≤ yF a b w F t (b k) := by
  have h1 := yF_up (a := a) (b := b) (w := w) F k (a k)
  have h2 := yF_ed (a := a) (b := b) (w := w) F k
  have h3 := yF_m (a := a) (b := b) (w := w) F (k + 1) (b k) (t - (k + 1))
  rw [show k + 1 + (t - (k + 1)) = t by omega] at h3
  omega
theorem yF_le {F X : Nat → Int} (hE : yE a b t n) (hX : yP a b w t X) (h : yL n F X) : ∀ k, k ≤ t → yL n (yF a b w F k) X
  | 0, _ => h
  | k + 1, hk => by
    have ih := yF_le hE hX h k (by omega)
    intro j hj
    rw [yF]
    split
    · simp only [zU]
      split
      · rename_i e
        subst e
        have h1 := ih (a k) (hE k (by omega)).1
        have h2 := hX k (by omega)
        omega
      · exact ih j hj
    · exact ih j hj
theorem yF_r {F : Nat → Int} (hX : yP a b w t F) : ∀ k, k ≤ t → yF a b w F k = F
  | 0, _ => rfl
  | k + 1, hk => by
    have h1 := hX k (by omega)
    rw [yF, yF_r hX k (by omega), if_neg (by omega)]
theorem yP_of {F : Nat → Int} (hE : yE a b t n) (h : yL n (yF a b w F t) F) : yP a b w t F := by
  intro k hk
  have h1 := yF_te (a := a) (b := b) (w := w) F hk
  have h2 := h (b k) (hE k hk).2
  omega
theorem yF_out {F : Nat → Int} (hE : yE a b t n) {j : Nat} (hj : n ≤ j) : ∀ k, k ≤ t → yF a b w F k j = F j
  | 0, _ => rfl
  | k + 1, hk => by
    have ih := yF_out (F := F) hE hj k (by omega)
    have h2 := (hE k (by omega)).2
    rw [yF]
    split
    · simp only [zU]
      rw [if_neg (by omega), ih]
    · exact ih
theorem yI_up (F : Nat → Int) (j : Nat) : ∀ r, F j ≤ yI a b w F t r j
  | 0 => Int.le_refl _
  | r + 1 => Int.le_trans (yI_up F j r) (yF_up _ t j)
theorem yI_le {F X : Nat → Int} (hE : yE a b t n) (hX : yP a b w t X) (h : yL n F X) : ∀ r, yL n (yI a b w F t r) X
  | 0 => h
  | r + 1 => yF_le hE hX (yI_le hE hX h r) t (Nat.le_refl t)
end YY
/-! how many are so, of the first n -/
def zC (P : Nat → Bool) : Nat → Nat
  | 0 => 0
  | k + 1 => zC P k + (if P k = true then 1 else 0)
theorem zC_le (P : Nat → Bool) : ∀ n, zC P n ≤ n
  | 0 => Nat.le_refl 0
  | n + 1 => by
    have := zC_le P n
    rw [zC]
    split <;> omega
theorem zC_mono {P Q : Nat → Bool} : ∀ n, (∀ j, j < n → P j = true → Q j = true) → zC P n ≤ zC Q n
  | 0, _ => Nat.le_refl 0
  | n + 1, h => by
    have ih := zC_mono n (fun j hj => h j (by omega))
    have h1 := h n (by omega)
    rw [zC, zC]
    by_cases e : P n = true
    · rw [if_pos e, if_pos (h1 e)]; omega
    · rw [if_neg e]; split <;> omega
theorem zC_lt {P Q : Nat → Bool} {m : Nat} (hP : P m = false) (hQ : Q m = true) : ∀ n, m < n → (∀ j, j < n → P j = true → Q j = true) → zC P n + 1 ≤ zC Q n
  | 0, hm, _ => by omega
  | n + 1, hm, h => by
    rw [zC, zC]
    by_cases e : m = n
    · subst e
      have := zC_mono m (fun j hj => h j (by omega))
      rw [if_neg (by rw [hP]; exact Bool.false_ne_true), if_pos hQ]
      omega
    · have ih := zC_lt hP hQ n (by omega) (fun j hj => h j (by omega))
      have h1 := h n (by omega)
      by_cases e2 : P n = true
      · rw [if_pos e2, if_pos (h1 e2)]; omega
      · rw [if_neg e2]; split <;> omega
theorem zC_all {P : Nat → Bool} : ∀ n, n ≤ zC P n → ∀ j, j < n → P j = true
  | 0, _, j, hj => by omega
  | n + 1, h, j, hj => by
    have h1 := zC_le P n
    rw [zC] at h
    by_cases e : P n = true
    · rw [if_pos e] at h
      rcases Nat.lt_or_ge j n with q | q
      · exact zC_all n (by omega) j q
      · rw [show j = n by omega]; exact e
    · rw [if_neg e] at h
      omega
theorem zC_top {P : Nat → Bool} : ∀ n, (∀ j, j < n → P j = true) → zC P n = n
  | 0, _ => rfl
  | n + 1, h => by rw [zC, zC_top n (fun j hj => h j (by omega)), if_pos (h n (by omega))]
/-! sums -/
def zS (F : Nat → Int) : Nat → Int
  | 0 => 0
  | k + 1 => zS F k + F k
theorem zS_le {F G : Nat → Int} : ∀ n, yL n F G → zS F n ≤ zS G n
  | 0, _ => Int.le_refl _
  | n + 1, h => by
    have ih := zS_le n (fun j hj => h j (by omega))
    have h1 := h n (by omega)
    rw [zS, zS]; omega
theorem zS_lt {F G : Nat → Int} {m : Nat} (hm2 : F m < G m) : ∀ n, m < n → yL n F G → zS F n + 1 ≤ zS G n
  | 0, hm, _ => by omega
  | n + 1, hm, h => by
    rw [zS, zS]
    by_cases e : m = n
    · subst e
      have := zS_le m (fun j hj => h j (by omega))
      omega
    · have ih := zS_lt hm2 n (by omega) (fun j hj => h j (by omega))
      have h1 := h n (by omega)
      omega
theorem zS_ub {F : Nat → Int} {M : Int} : ∀ n : Nat, (∀ j, j < n → F j ≤ M) → zS F n ≤ M * n
  | 0, _ => by simp [zS]
  | n + 1, h => by
    have ih := zS_ub n (fun j hj => h j (by omega))
    have h1 := h n (by omega)
    rw [zS, Int.natCast_add, Int.mul_add]
    omega
theorem zS_lb {F : Nat → Int} {M : Int} : ∀ n : Nat, (∀ j, j < n → M ≤ F j) → M * n ≤ zS F n
  | 0, _ => by simp [zS]
  | n + 1, h => by
    have ih := zS_lb n (fun j hj => h j (by omega))
    have h1 := h n (by omega)
    rw [zS, Int.natCast_add, Int.mul_add]
    omega
/-- the least of those that keep all tellings and are above lo -/
def yM (a b : Nat → Nat) (w : Nat → Int) (t n : Nat) (lo X : Nat → Int) : Prop := yP a b w t X ∧ yL n lo X ∧ ∀ G, yP a b w t G → yL n lo G → yL n X G
section YZ
variable {a b : Nat → Nat} {w : Nat → Int} {t n : Nat} {lo X F : Nat → Int}
theorem y_step (hM : yM a b w t n lo X) (h1 : yL n lo F) (h2 : yL n F X) (hE : yE a b t n) {j0 : Nat} (hj0 : j0 < n) (hlt : F j0 < X j0) : ∃ m, m < n ∧ F m < X m ∧ X m ≤ yF a b w F t m := by
  refine Classical.byContradiction fun hno => ?_
  have hall : ∀ m, m < n → F m < X m → yF a b w F t m < X m := fun m hm hl => by
    rcases Int.lt_or_le (yF a b w F t m) (X m) with q | q
    · exact q
    · exact absurd ⟨m, hm, hl, q⟩ hno
  have hG : yL n X (fun j => if F j < X j then X j - 1 else X j) := by
    refine hM.2.2 _ (fun k hk => ?_) (fun j hj => ?_)
    · have e1 := hM.1 k hk
      have e2 := yF_te (a := a) (b := b) (w := w) F hk
      have e3 := h2 (a k) (hE k hk).1
      have e4 := hall (b k) (hE k hk).2
      show (if F (a k) < X (a k) then X (a k) - 1 else X (a k)) + w k ≤ (if F (b k) < X (b k) then X (b k) - 1 else X (b k))
      by_cases c1 : F (a k) < X (a k)
      · rw [if_pos c1]
        by_cases c2 : F (b k) < X (b k)
        · rw [if_pos c2]; omega
        · rw [if_neg c2]; omega
      · rw [if_neg c1]
        by_cases c2 : F (b k) < X (b k)
        · rw [if_pos c2]
          have := e4 c2
          omega
        · rw [if_neg c2]; omega
    · show lo j ≤ (if F j < X j then X j - 1 else X j)
      have e1 := h1 j hj
      have e2 := hM.2.1 j hj
      split <;> omega
  have h9 := hG j0 hj0
  simp only [hlt, if_true] at h9
  omega
theorem y_base (hM : yM a b w t n lo X) (hn : 0 < n) : ∃ m, m < n ∧ X m ≤ lo m := by
  refine Classical.byContradiction fun hno => ?_
  have hG : yL n X (fun j => X j - 1) := by
    refine hM.2.2 _ (fun k hk => ?_) (fun j hj => ?_)
    · have e1 := hM.1 k hk
      show X (a k) - 1 + w k ≤ X (b k) - 1
      omega
    · show lo j ≤ X j - 1
      rcases Int.lt_or_le (lo j) (X j) with q | q
      · omega
      · exact absurd ⟨j, hj, q⟩ hno
  have h9 := hG 0 hn
  simp only at h9
  omega
def yD (a b : Nat → Nat) (w : Nat → Int) (t : Nat) (lo X : Nat → Int) (r : Nat) (j : Nat) : Bool := decide (X j ≤ yI a b w lo t r j)
theorem y_cnt (hM : yM a b w t n lo X) (hE : yE a b t n) : ∀ r, r + 1 ≤ zC (yD a b w t lo X r) n ∨ n ≤ zC (yD a b w t lo X r) n
  | 0 => by
    rcases Nat.eq_zero_or_pos n with q | q
    · exact Or.inr (by omega)
    · obtain ⟨m, hm, h⟩ := y_base hM q
      refine Or.inl ?_
      have := zC_lt (P := fun _ => false) (Q := yD a b w t lo X 0) (m := m) rfl (decide_eq_true h) n hm (fun j _ h => by cases h)
      omega
  | r + 1 => by
    have up : ∀ j, j < n → yD a b w t lo X r j = true → yD a b w t lo X (r + 1) j = true := fun j _ h => by
      have h1 := of_decide_eq_true h
      have h2 := yF_up (a := a) (b := b) (w := w) (yI a b w lo t r) t j
      exact decide_eq_true (Int.le_trans h1 h2)
    by_cases hall : n ≤ zC (yD a b w t lo X r) n
    · exact Or.inr (Nat.le_trans hall (zC_mono n up))
    · have ih := (y_cnt hM hE r).resolve_right hall
      have hex : ∃ j, j < n ∧ yI a b w lo t r j < X j := by
        refine Classical.byContradiction fun hno => hall ?_
        rw [zC_top (P := yD a b w t lo X r) n (fun j hj => decide_eq_true (by
          rcases Int.lt_or_le (yI a b w lo t r j) (X j) with q | q
          · exact absurd ⟨j, hj, q⟩ hno
          · exact q))]
        exact Nat.le_refl n
      obtain ⟨j0, hj0, hlt⟩ := hex
      obtain ⟨m, hm, h1, h2⟩ := y_step hM (fun j _ => yI_up lo j r) (yI_le hE hM.1 hM.2.1 r) hE hj0 hlt
      refine Or.inl ?_
      have := zC_lt (P := yD a b w t lo X r) (Q := yD a b w t lo X (r + 1)) (m := m) (decide_eq_false (by omega)) (decide_eq_true h2) n hm up
      omega
theorem y_done (hM : yM a b w t n lo X) (hE : yE a b t n) {r : Nat} (hr : n ≤ r + 1) {j : Nat} (hj : j < n) : yI a b w lo t r j = X j := by
  have h1 : n ≤ zC (yD a b w t lo X r) n := by
    rcases y_cnt hM hE r with q | q <;> omega
  have h2 := of_decide_eq_true (zC_all n h1 j hj)
  have h3 := yI_le hE hM.1 hM.2.1 r j hj
  omega
theorem yP_ext {X Y : Nat → Int} (hE : yE a b t n) (h : ∀ j, j < n → X j = Y j) (hX : yP a b w t X) : yP a b w t Y := fun k hk => by
  have h1 := hX k hk
  rw [h _ (hE k hk).1, h _ (hE k hk).2] at h1
  exact h1
theorem y_doneP (hM : yM a b w t n lo X) (hE : yE a b t n) {r : Nat} (hr : n ≤ r + 1) : yP a b w t (yI a b w lo t r) := yP_ext hE (fun j hj => (y_done hM hE hr hj).symm) hM.1
theorem y_grow (hE : yE a b t n) (h : ¬ yP a b w t F) : zS F n + 1 ≤ zS (yF a b w F t) n := by
  have hex : ∃ j, j < n ∧ F j < yF a b w F t j := by
    refine Classical.byContradiction fun hno => h (yP_of hE (fun j hj => ?_))
    rcases Int.lt_or_le (F j) (yF a b w F t j) with q | q
    · exact absurd ⟨j, hj, q⟩ hno
    · exact q
  obtain ⟨m, hm, hl⟩ := hex
  exact zS_lt hl n hm (fun j _ => yF_up F t j)
theorem y_ex (hE : yE a b t n) {X0 : Nat → Int} (hX : yP a b w t X0) (h : yL n lo X0) : ∃ X, yM a b w t n lo X := by
  have key : ∀ r : Nat, (∃ r', yP a b w t (yI a b w lo t r')) ∨ zS lo n + r ≤ zS (yI a b w lo t r) n := by
    intro r
    induction r with
    | zero => exact Or.inr (by simp [yI])
    | succ r ih =>
      rcases ih with q | q
      · exact Or.inl q
      · by_cases c : yP a b w t (yI a b w lo t r)
        · exact Or.inl ⟨r, c⟩
        · have h1 : zS (yI a b w lo t r) n + 1 ≤ zS (yI a b w lo t (r + 1)) n := y_grow hE c
          exact Or.inr (by omega)
  have hb : ∀ r, zS (yI a b w lo t r) n ≤ zS X0 n := fun r => zS_le n (yI_le hE hX h r)
  rcases key ((zS X0 n - zS lo n).toNat + 1) with ⟨r, hr⟩ | q
  · exact ⟨_, hr, fun j _ => yI_up lo j r, fun G hG hl => yI_le hE hG hl r⟩
  · have := hb ((zS X0 n - zS lo n).toNat + 1)
    omega
theorem yM_uni {Y : Nat → Int} (h1 : yM a b w t n lo X) (h2 : yM a b w t n lo Y) {j : Nat} (hj : j < n) : X j = Y j := by
  have e1 := h1.2.2 Y h2.1 h2.2.1 j hj
  have e2 := h2.2.2 X h1.1 h1.2.1 j hj
  omega
theorem yP_neg {X : Nat → Int} (h : yP a b w t X) : yP b a w t (fun j => -X j) := fun k hk => by
  have := h k hk
  show -X (b k) + w k ≤ -X (a k)
  omega
theorem yE_sw (h : yE a b t n) : yE b a t n := fun k hk => ⟨(h k hk).2, (h k hk).1⟩
end YZ
