/-! sums over pairs m < k -/
def RSm (f : Nat → Nat → Int) (k : Nat) : Nat → Int
  | 0 => 0
  | m + 1 => RSm f k m + f m k
def PSm (f : Nat → Nat → Int) : Nat → Int
  | 0 => 0
  | k + 1 => PSm f k + RSm f k k
theorem RSm_add {f g h : Nat → Nat → Int} {k : Nat} : ∀ m, (∀ i, i < m → f i k = g i k + h i k) → RSm f k m = RSm g k m + RSm h k m
  | 0, _ => rfl
  | m + 1, e => by
    rw [RSm, RSm, RSm, RSm_add m (fun i hi => e i (by omega)), e m (by omega)]
    omega
theorem PSm_add {f g h : Nat → Nat → Int} : ∀ c, (∀ m k, m < k → k < c → f m k = g m k + h m k) → PSm f c = PSm g c + PSm h c
  | 0, _ => rfl
  | c + 1, e => by
    rw [PSm, PSm, PSm, PSm_add c (fun m k h1 h2 => e m k h1 (by omega)), RSm_add c (fun i hi => e i c hi (by omega))]
    omega
theorem RSm_0 {f : Nat → Nat → Int} {k : Nat} : ∀ m, (∀ i, i < m → f i k = 0) → RSm f k m = 0
  | 0, _ => rfl
  | m + 1, e => by rw [RSm, RSm_0 m (fun i hi => e i (by omega)), e m (by omega)]; rfl
theorem PSm_0 {f : Nat → Nat → Int} : ∀ c, (∀ m k, m < k → k < c → f m k = 0) → PSm f c = 0
  | 0, _ => rfl
  | c + 1, e => by rw [PSm, PSm_0 c (fun m k h1 h2 => e m k h1 (by omega)), RSm_0 c (fun i hi => e i c hi (by omega))]; rfl
theorem PSm_cg {f g : Nat → Nat → Int} (c : Nat) (e : ∀ m k, m < k → k < c → f m k = g m k) : PSm f c = PSm g c := by
  have h := PSm_add (f := f) (g := g) (h := fun _ _ => 0) c (fun m k h1 h2 => by rw [e m k h1 h2]; omega)
  rw [h, PSm_0 (f := fun _ _ => 0) c (fun _ _ _ _ => rfl)]
  omega
theorem RSm_b {f : Nat → Nat → Int} {k : Nat} {B : Int} : ∀ m : Nat, (∀ i, i < m → f i k ≤ B) → RSm f k m ≤ B * m
  | 0, _ => by simp [RSm]
  | m + 1, e => by
    have ih := RSm_b m (fun i hi => e i (by omega))
    have h1 := e m (by omega)
    rw [RSm, Int.natCast_add, Int.mul_add]
    omega
theorem RSm_l {f : Nat → Nat → Int} {k : Nat} {B : Int} : ∀ m : Nat, (∀ i, i < m → B ≤ f i k) → B * m ≤ RSm f k m
  | 0, _ => by simp [RSm]
  | m + 1, e => by
    have ih := RSm_l m (fun i hi => e i (by omega))
    have h1 := e m (by omega)
    rw [RSm, Int.natCast_add, Int.mul_add]
    omega
theorem RSm_x {f : Nat → Nat → Int} {k m0 : Nat} {B : Int} (hB : 0 ≤ B) : ∀ m : Nat, m0 < m → (∀ i, i < m → f i k ≤ B) → RSm f k m ≤ f m0 k + B * m
  | 0, h, _ => by omega
  | m + 1, h, e => by
    have h1 := e m (by omega)
    rw [RSm, Int.natCast_add, Int.mul_add]
    by_cases c : m0 = m
    · subst c
      have := RSm_b m0 (fun i hi => e i (by omega))
      omega
    · have ih := RSm_x (m0 := m0) hB m (by omega) (fun i hi => e i (by omega))
      omega
theorem PSm_b {f : Nat → Nat → Int} {B : Int} (hB : 0 ≤ B) : ∀ c : Nat, c ≤ 6 → (∀ m k, m < k → k < c → f m k ≤ B) → PSm f c ≤ 6 * B * c
  | 0, _, _ => by simp [PSm]
  | c + 1, hc, e => by
    have ih := PSm_b hB c (by omega) (fun m k h1 h2 => e m k h1 (by omega))
    have h1 := RSm_b c (fun i hi => e i c hi (by omega))
    have h2 : B * c ≤ B * 6 := Int.mul_le_mul_of_nonneg_left (by omega) hB
    rw [PSm, Int.natCast_add, Int.mul_add]
    omega
theorem PSm_l {f : Nat → Nat → Int} {B : Int} (hB : B ≤ 0) : ∀ c : Nat, c ≤ 6 → (∀ m k, m < k → k < c → B ≤ f m k) → 6 * B * c ≤ PSm f c
  | 0, _, _ => by simp [PSm]
  | c + 1, hc, e => by
    have ih := PSm_l hB c (by omega) (fun m k h1 h2 => e m k h1 (by omega))
    have h1 := RSm_l c (fun i hi => e i c hi (by omega))
    have h2 : B * 6 ≤ B * c := Int.mul_le_mul_of_nonpos_left hB (by omega)
    rw [PSm, Int.natCast_add, Int.mul_add]
    omega
theorem PSm_x {f : Nat → Nat → Int} {B : Int} {m0 k0 : Nat} (hB : 0 ≤ B) (hm : m0 < k0) : ∀ c : Nat, c ≤ 6 → k0 < c → (∀ m k, m < k → k < c → f m k ≤ B) → PSm f c ≤ f m0 k0 + 6 * B * c
  | 0, _, h, _ => by omega
  | c + 1, hc, h, e => by
    have h2 : B * c ≤ B * 6 := Int.mul_le_mul_of_nonneg_left (by omega) hB
    rw [PSm, Int.natCast_add, Int.mul_add]
    by_cases ck : k0 = c
    · subst ck
      have h1 := PSm_b hB k0 (by omega) (fun m k h1 h2 => e m k h1 (by omega))
      have h3 := RSm_x hB k0 hm (fun i hi => e i k0 hi (by omega))
      omega
    · have ih := PSm_x hB hm c (by omega) (by omega) (fun m k h1 h2 => e m k h1 (by omega))
      have h1 := RSm_b c (fun i hi => e i c hi (by omega))
      omega
/-! bits of a set below 64 -/
def zbt (q i : Nat) : Bool := decide (q / 2 ^ i % 2 = 1)
/-- what the pairs are worth: not right, or a few -/
def xOK (x : Nat → Nat → Int) (c : Nat) : Prop := ∀ m k, m < k → k < c → x m k = -1000000 ∨ (-3 ≤ x m k ∧ x m k ≤ 10)
def badT (x : Nat → Nat → Int) (tg : Nat → Nat → Bool) (c : Nat) : Prop := ∃ m k, m < k ∧ k < c ∧ tg m k = true ∧ x m k = -1000000
def sumT (x : Nat → Nat → Int) (tg : Nat → Nat → Bool) (c : Nat) : Int := PSm (fun m k => if tg m k = true then x m k else 0) c
theorem sumT_ub {x : Nat → Nat → Int} {tg : Nat → Nat → Bool} {c : Nat} (hx : xOK x c) (hc : c ≤ 6) : sumT x tg c ≤ 360 := by
  have h := PSm_b (f := fun m k => if tg m k = true then x m k else 0) (B := 10) (by omega) c hc (fun m k h1 h2 => by
    have := hx m k h1 h2
    show (if tg m k = true then x m k else 0) ≤ 10
    split <;> omega)
  unfold sumT
  omega
theorem sumT_bad {x : Nat → Nat → Int} {tg : Nat → Nat → Bool} {c : Nat} (hx : xOK x c) (hc : c ≤ 6) (hb : badT x tg c) : sumT x tg c ≤ -999640 := by
  obtain ⟨m0, k0, h1, h2, h3, h4⟩ := hb
  have h := PSm_x (f := fun m k => if tg m k = true then x m k else 0) (B := 10) (by omega) h1 c hc h2 (fun m k h1 h2 => by
    have := hx m k h1 h2
    show (if tg m k = true then x m k else 0) ≤ 10
    split <;> omega)
  have e : (if tg m0 k0 = true then x m0 k0 else 0) = -1000000 := by rw [if_pos h3, h4]
  simp only [e] at h
  unfold sumT
  omega
/-! the class's sum: i, then the j above it -/
def ISm (f : Nat → Nat → Int) (i : Nat) : Nat → Int
  | 0 => 0
  | j + 1 => ISm f i j + (if i < j then f i j else 0)
def OSm (f : Nat → Nat → Int) (n : Nat) : Nat → Int
  | 0 => 0
  | i + 1 => OSm f n i + ISm f i n
theorem ISm_0 {f : Nat → Nat → Int} {i : Nat} : ∀ j, j ≤ i + 1 → ISm f i j = 0
  | 0, _ => rfl
  | j + 1, h => by rw [ISm, ISm_0 j (by omega), if_neg (by omega)]; rfl
theorem OSm_s {f : Nat → Nat → Int} {n : Nat} : ∀ m, m ≤ n → OSm f (n + 1) m = OSm f n m + RSm f n m
  | 0, _ => rfl
  | m + 1, hm => by
    rw [OSm, OSm, RSm, OSm_s m (by omega), ISm, if_pos (by omega)]
    omega
theorem OSm_P {f : Nat → Nat → Int} : ∀ n, OSm f n n = PSm f n
  | 0 => rfl
  | n + 1 => by
    rw [OSm, OSm_s n (Nat.le_refl n), OSm_P n, ISm_0 (n + 1) (Nat.le_refl _), PSm]
    omega
section WO
variable {x : Nat → Nat → Int} {tg : Nat → Nat → Bool} {pw : Nat → Int32} {c : Nat}
theorem xOK_b (hx : xOK x c) {m k : Nat} (h1 : m < k) (h2 : k < c) : -1000000 ≤ (if tg m k = true then x m k else 0) ∧ (if tg m k = true then x m k else 0) ≤ 10 := by
  have := hx m k h1 h2
  split <;> omega
theorem inS_I (hx : xOK x c) (hc : c ≤ 6) (hp : ∀ i j, i < j → j < c → (pw (i * 6 + j)).toInt = x i j) {i : Nat} : ∀ j : Nat, j ≤ c → (inS tg pw i j).toInt = ISm (fun m k => if tg m k = true then x m k else 0) i j ∧ -1000000 * j ≤ ISm (fun m k => if tg m k = true then x m k else 0) i j ∧ ISm (fun m k => if tg m k = true then x m k else 0) i j ≤ 10 * j
  | 0, _ => ⟨by show (nI 0).toInt = 0; decide, by simp [ISm], by simp [ISm]⟩
  | j + 1, hj => by
    obtain ⟨e, b1, b2⟩ := inS_I hx hc hp (i := i) j (by omega)
    rw [inS, ISm]
    by_cases h : i < j
    · have hb := xOK_b (tg := tg) hx h (by omega)
      have hpw := hp i j h (by omega)
      by_cases t : tg i j = true
      · rw [if_pos ⟨h, t⟩, if_pos h]
        simp only [t, if_true] at hb ⊢
        rw [zz_add (by omega) (by omega), e, hpw]
        refine ⟨rfl, ?_, ?_⟩ <;> omega
      · rw [if_neg (fun z => t z.2), if_pos h]
        simp only [t] at hb ⊢
        refine ⟨by rw [e]; simp, ?_, ?_⟩ <;> simp <;> omega
    · rw [if_neg (fun z => h z.1), if_neg h]
      refine ⟨by rw [e]; omega, ?_, ?_⟩ <;> omega
theorem ouS_O (hx : xOK x c) (hc : c ≤ 6) (hp : ∀ i j, i < j → j < c → (pw (i * 6 + j)).toInt = x i j) : ∀ i : Nat, i ≤ c → (ouS tg pw c i).toInt = OSm (fun m k => if tg m k = true then x m k else 0) c i ∧ -6000000 * i ≤ OSm (fun m k => if tg m k = true then x m k else 0) c i ∧ OSm (fun m k => if tg m k = true then x m k else 0) c i ≤ 60 * i
  | 0, _ => ⟨by show (nI 0).toInt = 0; decide, by simp [OSm], by simp [OSm]⟩
  | i + 1, hi => by
    obtain ⟨e, b1, b2⟩ := ouS_O hx hc hp i (by omega)
    obtain ⟨e2, b3, b4⟩ := inS_I (tg := tg) hx hc hp (i := i) c (Nat.le_refl c)
    rw [ouS, OSm, zz_add (by omega) (by omega), e, e2]
    refine ⟨rfl, ?_, ?_⟩ <;> omega
theorem wOf_T (hx : xOK x c) (hc : c ≤ 6) (hp : ∀ i j, i < j → j < c → (pw (i * 6 + j)).toInt = x i j) : (badT x tg c → wOf tg pw c = (-1000000)) ∧ (¬ badT x tg c → (wOf tg pw c).toInt = sumT x tg c) := by
  refine ⟨fun ⟨m, k, h1, h2, h3, h4⟩ => ?_, fun hb => ?_⟩
  · refine (wOf_bad (i := m) (j := k) (by omega) h2 ⟨h1, h3, ?_⟩).symm
    rw [zz_eq, hp m k h1 h2, h4]
    exact no_int.symm
  · rw [← wOf_ok (tg := tg) (pw := pw) (n := c) (fun i j hi hj z => hb ⟨i, j, z.1, hj, z.2.1, by rw [← hp i j z.1 hj, z.2.2]; exact no_int⟩)]
    rw [(ouS_O hx hc hp c (Nat.le_refl c)).1, OSm_P]
    rfl
end WO
/-! the reference's sum -/
section WR
variable {g : Nat → Nat → Int32} {ch : Nat → Int32} {x : Nat → Nat → Int} {c q : Nat}
def sT (q m k : Nat) : Bool := zbt q m && zbt q k
theorem zbt_hi {q c k : Nat} (hq : q < 2 ^ c) (hk : c ≤ k) : zbt q k = false := by
  refine decide_eq_false ?_
  have : 2 ^ c ≤ 2 ^ k := Nat.pow_le_pow_right (by omega) hk
  rw [Nat.div_eq_of_lt (by omega)]
  omega
theorem zbt_h {q k : Nat} (hq : q < 64) (hk : k < 16) : hasB (nI q) (nI k) = zbt q k := hasB_bit (by omega) hk
theorem wmI_T (hx : xOK x c) (hq : q < 2 ^ c) (hc : c ≤ 6) (hp : ∀ m k, m < k → k < c → (wpM g (q_n (ch k)) (q_n (ch m))).toInt = x m k) {k : Nat} {acc : Int32} (hk : k < 6) (ha : -36000000 ≤ acc.toInt ∧ acc.toInt ≤ 360) : ∀ m : Nat, m ≤ k → (wmI g ch (nI q) acc k m).toInt = acc.toInt + RSm (fun m k => if sT q m k = true then x m k else 0) k m ∧ -1000000 * m ≤ RSm (fun m k => if sT q m k = true then x m k else 0) k m ∧ RSm (fun m k => if sT q m k = true then x m k else 0) k m ≤ 10 * m
  | 0, _ => ⟨by rw [wmI, RSm]; omega, by simp [RSm], by simp [RSm]⟩
  | m + 1, hm => by
    have h64 : q < 64 := Nat.lt_of_lt_of_le hq (show 2 ^ c ≤ 2 ^ 6 from Nat.pow_le_pow_right (by omega) hc)
    obtain ⟨e, b1, b2⟩ := wmI_T hx hq hc hp hk ha m (by omega)
    rw [wmI, RSm, zbt_h h64 (by omega), zbt_h h64 (by omega)]
    by_cases t : sT q m k = true
    · have t2 := t
      rw [sT, Bool.and_eq_true] at t2
      have hkc : k < c := by
        rcases Nat.lt_or_ge k c with z | z
        · exact z
        · have := zbt_hi hq z; rw [t2.2] at this; cases this
      have hb := hx m k (by omega) hkc
      have hpw := hp m k (by omega) hkc
      rw [if_pos ⟨t2.2, t2.1⟩]
      simp only [t, if_true]
      rw [zz_add (by omega) (by omega), e, hpw]
      refine ⟨?_, ?_, ?_⟩ <;> omega
    · rw [if_neg (fun z => t (by rw [sT, Bool.and_eq_true]; exact ⟨z.2, z.1⟩))]
      simp only [t]
      refine ⟨by rw [e]; simp, ?_, ?_⟩ <;> simp <;> omega
theorem wmO_T (hx : xOK x c) (hq : q < 2 ^ c) (hc : c ≤ 6) (hp : ∀ m k, m < k → k < c → (wpM g (q_n (ch k)) (q_n (ch m))).toInt = x m k) : ∀ k : Nat, k ≤ 6 → (wmO g ch (nI q) k).toInt = PSm (fun m k => if sT q m k = true then x m k else 0) k ∧ -6000000 * k ≤ PSm (fun m k => if sT q m k = true then x m k else 0) k ∧ PSm (fun m k => if sT q m k = true then x m k else 0) k ≤ 60 * k
  | 0, _ => ⟨by show (nI 0).toInt = 0; decide, by simp [PSm], by simp [PSm]⟩
  | k + 1, hk => by
    obtain ⟨e, b1, b2⟩ := wmO_T hx hq hc hp k (by omega)
    obtain ⟨e2, b3, b4⟩ := wmI_T hx hq hc hp (k := k) (acc := wmO g ch (nI q) k) (by omega) (by omega) k (Nat.le_refl k)
    rw [wmO, PSm, e2, e]
    refine ⟨rfl, ?_, ?_⟩ <;> omega
theorem wmO_s (hx : xOK x c) (hq : q < 2 ^ c) (hc : c ≤ 6) (hp : ∀ m k, m < k → k < c → (wpM g (q_n (ch k)) (q_n (ch m))).toInt = x m k) : (wmO g ch (nI q) 6).toInt = sumT x (sT q) c := by
  rw [(wmO_T hx hq hc hp 6 (Nat.le_refl 6)).1]
  have key : ∀ d, c + d ≤ 6 → PSm (fun m k => if sT q m k = true then x m k else 0) (c + d) = PSm (fun m k => if sT q m k = true then x m k else 0) c := by
    intro d
    induction d with
    | zero => exact fun _ => rfl
    | succ d ih =>
      intro hd
      rw [← Nat.add_assoc, PSm, ih (by omega), RSm_0 (c + d) (fun i hi => by
        show (if sT q i (c + d) = true then x i (c + d) else 0) = 0
        rw [if_neg (by rw [sT, zbt_hi hq (show c ≤ c + d by omega), Bool.and_false]; exact Bool.false_ne_true)])]
      omega
  have h := key (6 - c) (by omega)
  rw [show c + (6 - c) = 6 by omega] at h
  exact h
end WR
