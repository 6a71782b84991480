/-! what act refuses, in any state -/
/-- the rows that count are those of g0; so many mentions, tellings, numbers of persons -/
def SR (g0 : Nat → Nat → Int32) (a t b : Nat) (g : Nat → Nat → Int32) (z : Nat → Nat) : Prop := (∀ j, scB j = false → g j = g0 j) ∧ z 0 = a ∧ z 1 = t ∧ z 2 = b ∧ inv g z
def csr (l : Launch) (D : va_G) (cA : ClassId) (ad : Nat → Nat) (w : Nat) (p0 p1 p2 p3 : Int32) (g0 : Nat → Nat → Int32) (a t b : Nat) (r : Int32) : Prop :=
  ∀ g z, SR g0 a t b g z → q_CL l yL_act cwA rm_A D cA [.ref (ad 70), .int (nI w), .int p0, .int p1, .int p2, .int p3] (rlW cA ad g z) r (q_BG cA ad (SR g0 a t b))
theorem notr {x : Int32} (h : (List.range 40).all (fun j => decide (¬ nI j = x)) = true) {n : Nat} (hn : n ≤ 40) : ¬ q_r x n := by
  rintro ⟨j, hj, e⟩
  exact of_decide_eq_true (List.all_eq_true.mp h j (List.mem_range.mpr (by omega))) e.symm
theorem notn {n : Nat} (hn : n ≤ 40) : ¬ q_r (nI n) n := by
  rintro ⟨j, hj, e⟩
  have := (nI_eq (a := n) (b := j) (by omega) (by omega)).1 e
  omega
theorem shB {x : Int32} (h : (List.range 17).all (fun a => decide (¬ x >>> (nI a &&& 31) = 0)) = true) {a : Nat} (ha : a ≤ 16) : ¬ x >>> (nI a &&& 31) = 0 := of_decide_eq_true (List.all_eq_true.mp h a (List.mem_range.mpr (by omega)))
theorem shA : ∀ a, a ≤ 16 → ¬ (nI 1 <<< (nI a &&& 31)) >>> (nI a &&& 31) = 0 := by
  have h : (List.range 17).all (fun a => decide (¬ (nI 1 <<< (nI a &&& 31)) >>> (nI a &&& 31) = 0)) = true := by decide +kernel
  exact fun a ha => of_decide_eq_true (List.all_eq_true.mp h a (List.mem_range.mpr (by omega)))
section RA
variable {l : Launch} {D : va_G} {cA : ClassId} {ad : Nat → Nat} {g0 : Nat → Nat → Int32} {a t b : Nat} {p0 p1 p2 p3 : Int32}
theorem ri_ahead (htr : l.stackTraces = false) (h : ¬ q_r p0 a) : csr l D cA ad 3 p0 p1 p2 p3 g0 a t b (-7000001) := by
  intro g z hs
  have hI := hs.2.2.2.2
  have h1 : ¬ q_r p0 (z 0) := by rw [hs.2.1]; exact h
  exact (ax_ahead_iob l D cA ad g _ z _ p0 p1 p2 p3 _ ⟨rfl, rfl, Nat.le_of_ble_eq_true rfl, Nat.le_of_ble_eq_true rfl⟩ (c_X5_aheadx l htr D cA ad g z p0 p1 p2 h1 hI.hz0)).mono rfl (fun x hx => ⟨g, z, hx, hs⟩)
theorem ri_find (htr : l.stackTraces = false) (h : ¬ q_r p0 a) : csr l D cA ad 4 p0 p1 p2 p3 g0 a t b (-7000001) := by
  intro g z hs
  have hI := hs.2.2.2.2
  have h1 : ¬ q_r p0 (z 0) := by rw [hs.2.1]; exact h
  exact (ax_find_iob l D cA ad g _ z _ p0 p1 p2 p3 _ ⟨rfl, rfl, Nat.le_of_ble_eq_true rfl, Nat.le_of_ble_eq_true rfl⟩ (c_X5_findx l htr D cA ad g z p0 p1 p2 h1 hI.hz0)).mono rfl (fun x hx => ⟨g, z, hx, hs⟩)
theorem ri_wouldMove (htr : l.stackTraces = false) (h : ¬ q_r p0 a) : csr l D cA ad 5 p0 p1 p2 p3 g0 a t b (-7000001) := by
  intro g z hs
  have hI := hs.2.2.2.2
  have h1 : ¬ q_r p0 (z 0) := by rw [hs.2.1]; exact h
  exact (ax_wouldMove_iob l D cA ad g _ z _ p0 p1 p2 p3 _ ⟨rfl, rfl, Nat.le_of_ble_eq_true rfl, Nat.le_of_ble_eq_true rfl⟩ (c_X5_wouldMovex l htr D cA ad g z p0 p1 p2 h1 hI.hz0)).mono rfl (fun x hx => ⟨g, z, hx, hs⟩)
theorem ri_year (htr : l.stackTraces = false) (h : ¬ q_r p0 a) : csr l D cA ad 6 p0 p1 p2 p3 g0 a t b (-7000001) := by
  intro g z hs
  have hI := hs.2.2.2.2
  have h1 : ¬ q_r p0 (z 0) := by rw [hs.2.1]; exact h
  exact (ax_year_iob l D cA ad g _ z _ p0 p1 p2 p3 _ ⟨rfl, rfl, Nat.le_of_ble_eq_true rfl, Nat.le_of_ble_eq_true rfl⟩ (c_X5_yearx l htr D cA ad g z p0 (decide (p1 = nI 1)) h1 hI.hz0)).mono rfl (fun x hx => ⟨g, z, hx, hs⟩)
theorem ri_yearAnew (htr : l.stackTraces = false) (h : ¬ q_r p0 a) : csr l D cA ad 7 p0 p1 p2 p3 g0 a t b (-7000001) := by
  intro g z hs
  have hI := hs.2.2.2.2
  have h1 : ¬ q_r p0 (z 0) := by rw [hs.2.1]; exact h
  exact (ax_yearAnew_iob l D cA ad g _ z _ p0 p1 p2 p3 _ ⟨rfl, rfl, Nat.le_of_ble_eq_true rfl, Nat.le_of_ble_eq_true rfl⟩ (c_X5_yearAnewx l htr D cA ad g z p0 (decide (p1 = nI 1)) h1 hI.hz0)).mono rfl (fun x hx => ⟨g, z, hx, hs⟩)
theorem ri_seal (htr : l.stackTraces = false) (h : ¬ q_r p0 a) : csr l D cA ad 8 p0 p1 p2 p3 g0 a t b (-7000001) := by
  intro g z hs
  have hI := hs.2.2.2.2
  have h1 : ¬ q_r p0 (z 0) := by rw [hs.2.1]; exact h
  exact (ax_seal_iob l D cA ad g _ z _ p0 p1 p2 p3 _ ⟨rfl, rfl, Nat.le_of_ble_eq_true rfl, Nat.le_of_ble_eq_true rfl⟩ (c_X5_sealx l htr D cA ad g z p0 p1 h1 hI.hz0)).mono rfl (fun x hx => ⟨g, z, hx, hs⟩)
theorem ri_block (htr : l.stackTraces = false) (h : ¬ q_r p0 a) : csr l D cA ad 9 p0 p1 p2 p3 g0 a t b (-7000001) := by
  intro g z hs
  have hI := hs.2.2.2.2
  have h1 : ¬ q_r p0 (z 0) := by rw [hs.2.1]; exact h
  exact (ax_block_iob l D cA ad g _ z _ p0 p1 p2 p3 _ ⟨rfl, rfl, Nat.le_of_ble_eq_true rfl, Nat.le_of_ble_eq_true rfl⟩ (c_X5_blockx l htr D cA ad g z p0 p1 (decide (p2 = nI 1)) h1 hI.hz0)).mono rfl (fun x hx => ⟨g, z, hx, hs⟩)
theorem ri_weight (htr : l.stackTraces = false) (h : ¬ q_r p0 a) : csr l D cA ad 10 p0 p1 p2 p3 g0 a t b (-7000001) := by
  intro g z hs
  have hI := hs.2.2.2.2
  have h1 : ¬ q_r p0 (z 0) := by rw [hs.2.1]; exact h
  exact (ax_weight_iob l D cA ad g _ z _ p0 p1 p2 p3 _ ⟨rfl, rfl, Nat.le_of_ble_eq_true rfl, Nat.le_of_ble_eq_true rfl⟩ (c_X5_weightx l htr D cA ad g z p0 p1 h1 hI.hz0)).mono rfl (fun x hx => ⟨g, z, hx, hs⟩)
theorem ri_whyNot (htr : l.stackTraces = false) (h : ¬ q_r p0 a) : csr l D cA ad 11 p0 p1 p2 p3 g0 a t b (-7000001) := by
  intro g z hs
  have hI := hs.2.2.2.2
  have h1 : ¬ q_r p0 (z 0) := by rw [hs.2.1]; exact h
  exact (ax_whyNot_iob l D cA ad g _ z _ p0 p1 p2 p3 _ ⟨rfl, rfl, Nat.le_of_ble_eq_true rfl, Nat.le_of_ble_eq_true rfl⟩ (c_X5_whyNotx l htr D cA ad g z p0 p1 h1 hI.hz0)).mono rfl (fun x hx => ⟨g, z, hx, hs⟩)
theorem ri_join (htr : l.stackTraces = false) (h : ¬ q_r p0 a) : csr l D cA ad 12 p0 p1 p2 p3 g0 a t b (-7000001) := by
  intro g z hs
  have hI := hs.2.2.2.2
  have h1 : ¬ q_r p0 (z 0) := by rw [hs.2.1]; exact h
  exact (ax_join_iob l D cA ad g _ z _ p0 p1 p2 p3 _ ⟨rfl, rfl, Nat.le_of_ble_eq_true rfl, Nat.le_of_ble_eq_true rfl⟩ (c_X5_joinx l htr D cA ad g z p0 p1 h1 hI.hz0)).mono rfl (fun x hx => ⟨g, z, hx, hs⟩)
theorem ri_split (htr : l.stackTraces = false) (h : ¬ q_r p0 a) : csr l D cA ad 13 p0 p1 p2 p3 g0 a t b (-7000001) := by
  intro g z hs
  have hI := hs.2.2.2.2
  have h1 : ¬ q_r p0 (z 0) := by rw [hs.2.1]; exact h
  exact (ax_split_iob l D cA ad g _ z _ p0 p1 p2 p3 _ ⟨rfl, rfl, Nat.le_of_ble_eq_true rfl, Nat.le_of_ble_eq_true rfl⟩ (c_X5_splitx l htr D cA ad g z p0 h1 hI.hz0)).mono rfl (fun x hx => ⟨g, z, hx, hs⟩)
theorem ri_person (htr : l.stackTraces = false) (h : ¬ q_r p0 a) : csr l D cA ad 14 p0 p1 p2 p3 g0 a t b (-7000001) := by
  intro g z hs
  have hI := hs.2.2.2.2
  have h1 : ¬ q_r p0 (z 0) := by rw [hs.2.1]; exact h
  exact (ax_person_iob l D cA ad g _ z _ p0 p1 p2 p3 _ ⟨rfl, rfl, Nat.le_of_ble_eq_true rfl, Nat.le_of_ble_eq_true rfl⟩ (c_X5_personx l htr D cA ad g z p0 h1 hI.hz0)).mono rfl (fun x hx => ⟨g, z, hx, hs⟩)
theorem ri_kin (htr : l.stackTraces = false) (h : ¬ q_r p0 a) : csr l D cA ad 19 p0 p1 p2 p3 g0 a t b (-7000001) := by
  intro g z hs
  have hI := hs.2.2.2.2
  have h1 : ¬ q_r p0 (z 0) := by rw [hs.2.1]; exact h
  exact (ax_kin_iob l D cA ad g _ z _ p0 p1 p2 p3 _ ⟨rfl, rfl, Nat.le_of_ble_eq_true rfl, Nat.le_of_ble_eq_true rfl⟩ (c_X5_kinx l htr D cA ad g z p0 p1 h1 hI.hz0)).mono rfl (fun x hx => ⟨g, z, hx, hs⟩)
theorem ri_rival (htr : l.stackTraces = false) (h : ¬ q_r p0 a) : csr l D cA ad 23 p0 p1 p2 p3 g0 a t b (-7000001) := by
  intro g z hs
  have hI := hs.2.2.2.2
  have h1 : ¬ q_r p0 (z 0) := by rw [hs.2.1]; exact h
  exact (ax_rival_iob l D cA ad g _ z _ p0 p1 p2 p3 _ ⟨rfl, rfl, Nat.le_of_ble_eq_true rfl, Nat.le_of_ble_eq_true rfl⟩ (c_X5_rivalx l htr D cA ad g z p0 p1 h1 hI.hz0)).mono rfl (fun x hx => ⟨g, z, hx, hs⟩)
theorem rj_ahead (htr : l.stackTraces = false) (h : ¬ q_r p1 a) : csr l D cA ad 3 p0 p1 p2 p3 g0 a t b (-7000001) := by
  by_cases h0 : q_r p0 a
  · intro g z hs
    have hI := hs.2.2.2.2
    have h1 : q_r p0 (z 0) := by rw [hs.2.1]; exact h0
    have h2 : ¬ q_r p1 (z 0) := by rw [hs.2.1]; exact h
    exact (ax_ahead_iob l D cA ad g _ z _ p0 p1 p2 p3 _ ⟨rfl, rfl, Nat.le_of_ble_eq_true rfl, Nat.le_of_ble_eq_true rfl⟩ (c_X5_aheadx2 l htr D cA ad g z p0 p1 p2 h1 h2 hI.hz0)).mono rfl (fun x hx => ⟨g, z, hx, hs⟩)
  · exact ri_ahead htr h0
theorem rs_ahead (htr : l.stackTraces = false) (h : q_r p0 a) : csr l D cA ad 3 p0 p0 p2 p3 g0 a t b (-7000002) := by
  intro g z hs
  have hI := hs.2.2.2.2
  have h1 : q_r p0 (z 0) := by rw [hs.2.1]; exact h
  exact (ax_ahead_iae l D cA ad g _ z _ p0 p0 p2 p3 _ ⟨rfl, rfl, Nat.le_of_ble_eq_true rfl, Nat.le_of_ble_eq_true rfl⟩ (c_X5_aheadx3 l htr D cA ad g z p0 p0 p2 h1 h1 rfl hI.hz0)).mono rfl (fun x hx => ⟨g, z, hx, hs⟩)
theorem rj_seal (htr : l.stackTraces = false) (h : ¬ q_r p1 a) : csr l D cA ad 8 p0 p1 p2 p3 g0 a t b (-7000001) := by
  by_cases h0 : q_r p0 a
  · intro g z hs
    have hI := hs.2.2.2.2
    have h1 : q_r p0 (z 0) := by rw [hs.2.1]; exact h0
    have h2 : ¬ q_r p1 (z 0) := by rw [hs.2.1]; exact h
    exact (ax_seal_iob l D cA ad g _ z _ p0 p1 p2 p3 _ ⟨rfl, rfl, Nat.le_of_ble_eq_true rfl, Nat.le_of_ble_eq_true rfl⟩ (c_X5_sealx2 l htr D cA ad g z p0 p1 h1 h2 hI.hz0)).mono rfl (fun x hx => ⟨g, z, hx, hs⟩)
  · exact ri_seal htr h0
theorem rs_seal (htr : l.stackTraces = false) (h : q_r p0 a) : csr l D cA ad 8 p0 p0 p2 p3 g0 a t b (-7000002) := by
  intro g z hs
  have hI := hs.2.2.2.2
  have h1 : q_r p0 (z 0) := by rw [hs.2.1]; exact h
  exact (ax_seal_iae l D cA ad g _ z _ p0 p0 p2 p3 _ ⟨rfl, rfl, Nat.le_of_ble_eq_true rfl, Nat.le_of_ble_eq_true rfl⟩ (c_X5_sealx3 l htr D cA ad g z p0 p0 h1 h1 rfl hI.hz0)).mono rfl (fun x hx => ⟨g, z, hx, hs⟩)
theorem rj_block (htr : l.stackTraces = false) (h : ¬ q_r p1 a) : csr l D cA ad 9 p0 p1 p2 p3 g0 a t b (-7000001) := by
  by_cases h0 : q_r p0 a
  · intro g z hs
    have hI := hs.2.2.2.2
    have h1 : q_r p0 (z 0) := by rw [hs.2.1]; exact h0
    have h2 : ¬ q_r p1 (z 0) := by rw [hs.2.1]; exact h
    exact (ax_block_iob l D cA ad g _ z _ p0 p1 p2 p3 _ ⟨rfl, rfl, Nat.le_of_ble_eq_true rfl, Nat.le_of_ble_eq_true rfl⟩ (c_X5_blockx2 l htr D cA ad g z p0 p1 (decide (p2 = nI 1)) h1 h2 hI.hz0)).mono rfl (fun x hx => ⟨g, z, hx, hs⟩)
  · exact ri_block htr h0
theorem rs_block (htr : l.stackTraces = false) (h : q_r p0 a) : csr l D cA ad 9 p0 p0 p2 p3 g0 a t b (-7000002) := by
  intro g z hs
  have hI := hs.2.2.2.2
  have h1 : q_r p0 (z 0) := by rw [hs.2.1]; exact h
  exact (ax_block_iae l D cA ad g _ z _ p0 p0 p2 p3 _ ⟨rfl, rfl, Nat.le_of_ble_eq_true rfl, Nat.le_of_ble_eq_true rfl⟩ (c_X5_blockx3 l htr D cA ad g z p0 p0 (decide (p2 = nI 1)) h1 h1 rfl hI.hz0)).mono rfl (fun x hx => ⟨g, z, hx, hs⟩)
theorem rj_weight (htr : l.stackTraces = false) (h : ¬ q_r p1 a) : csr l D cA ad 10 p0 p1 p2 p3 g0 a t b (-7000001) := by
  by_cases h0 : q_r p0 a
  · intro g z hs
    have hI := hs.2.2.2.2
    have h1 : q_r p0 (z 0) := by rw [hs.2.1]; exact h0
    have h2 : ¬ q_r p1 (z 0) := by rw [hs.2.1]; exact h
    exact (ax_weight_iob l D cA ad g _ z _ p0 p1 p2 p3 _ ⟨rfl, rfl, Nat.le_of_ble_eq_true rfl, Nat.le_of_ble_eq_true rfl⟩ (c_X5_weightx2 l htr D cA ad g z p0 p1 h1 h2 hI.hz0)).mono rfl (fun x hx => ⟨g, z, hx, hs⟩)
  · exact ri_weight htr h0
theorem rs_weight (htr : l.stackTraces = false) (h : q_r p0 a) : csr l D cA ad 10 p0 p0 p2 p3 g0 a t b (-7000002) := by
  intro g z hs
  have hI := hs.2.2.2.2
  have h1 : q_r p0 (z 0) := by rw [hs.2.1]; exact h
  exact (ax_weight_iae l D cA ad g _ z _ p0 p0 p2 p3 _ ⟨rfl, rfl, Nat.le_of_ble_eq_true rfl, Nat.le_of_ble_eq_true rfl⟩ (c_X5_weightx3 l htr D cA ad g z p0 p0 h1 h1 rfl hI.hz0)).mono rfl (fun x hx => ⟨g, z, hx, hs⟩)
theorem rj_whyNot (htr : l.stackTraces = false) (h : ¬ q_r p1 a) : csr l D cA ad 11 p0 p1 p2 p3 g0 a t b (-7000001) := by
  by_cases h0 : q_r p0 a
  · intro g z hs
    have hI := hs.2.2.2.2
    have h1 : q_r p0 (z 0) := by rw [hs.2.1]; exact h0
    have h2 : ¬ q_r p1 (z 0) := by rw [hs.2.1]; exact h
    exact (ax_whyNot_iob l D cA ad g _ z _ p0 p1 p2 p3 _ ⟨rfl, rfl, Nat.le_of_ble_eq_true rfl, Nat.le_of_ble_eq_true rfl⟩ (c_X5_whyNotx2 l htr D cA ad g z p0 p1 h1 h2 hI.hz0)).mono rfl (fun x hx => ⟨g, z, hx, hs⟩)
  · exact ri_whyNot htr h0
theorem rs_whyNot (htr : l.stackTraces = false) (h : q_r p0 a) : csr l D cA ad 11 p0 p0 p2 p3 g0 a t b (-7000002) := by
  intro g z hs
  have hI := hs.2.2.2.2
  have h1 : q_r p0 (z 0) := by rw [hs.2.1]; exact h
  exact (ax_whyNot_iae l D cA ad g _ z _ p0 p0 p2 p3 _ ⟨rfl, rfl, Nat.le_of_ble_eq_true rfl, Nat.le_of_ble_eq_true rfl⟩ (c_X5_whyNotx3 l htr D cA ad g z p0 p0 h1 h1 rfl hI.hz0)).mono rfl (fun x hx => ⟨g, z, hx, hs⟩)
theorem rj_join (htr : l.stackTraces = false) (h : ¬ q_r p1 a) : csr l D cA ad 12 p0 p1 p2 p3 g0 a t b (-7000001) := by
  by_cases h0 : q_r p0 a
  · intro g z hs
    have hI := hs.2.2.2.2
    have h1 : q_r p0 (z 0) := by rw [hs.2.1]; exact h0
    have h2 : ¬ q_r p1 (z 0) := by rw [hs.2.1]; exact h
    exact (ax_join_iob l D cA ad g _ z _ p0 p1 p2 p3 _ ⟨rfl, rfl, Nat.le_of_ble_eq_true rfl, Nat.le_of_ble_eq_true rfl⟩ (c_X5_joinx2 l htr D cA ad g z p0 p1 h1 h2 hI.hz0)).mono rfl (fun x hx => ⟨g, z, hx, hs⟩)
  · exact ri_join htr h0
theorem rs_join (htr : l.stackTraces = false) (h : q_r p0 a) : csr l D cA ad 12 p0 p0 p2 p3 g0 a t b (-7000002) := by
  intro g z hs
  have hI := hs.2.2.2.2
  have h1 : q_r p0 (z 0) := by rw [hs.2.1]; exact h
  exact (ax_join_iae l D cA ad g _ z _ p0 p0 p2 p3 _ ⟨rfl, rfl, Nat.le_of_ble_eq_true rfl, Nat.le_of_ble_eq_true rfl⟩ (c_X5_joinx3 l htr D cA ad g z p0 p0 h1 h1 rfl hI.hz0)).mono rfl (fun x hx => ⟨g, z, hx, hs⟩)
theorem rj_kin (htr : l.stackTraces = false) (h : ¬ q_r p1 a) : csr l D cA ad 19 p0 p1 p2 p3 g0 a t b (-7000001) := by
  by_cases h0 : q_r p0 a
  · intro g z hs
    have hI := hs.2.2.2.2
    have h1 : q_r p0 (z 0) := by rw [hs.2.1]; exact h0
    have h2 : ¬ q_r p1 (z 0) := by rw [hs.2.1]; exact h
    exact (ax_kin_iob l D cA ad g _ z _ p0 p1 p2 p3 _ ⟨rfl, rfl, Nat.le_of_ble_eq_true rfl, Nat.le_of_ble_eq_true rfl⟩ (c_X5_kinx2 l htr D cA ad g z p0 p1 h1 h2 hI.hz0)).mono rfl (fun x hx => ⟨g, z, hx, hs⟩)
  · exact ri_kin htr h0
theorem rs_kin (htr : l.stackTraces = false) (h : q_r p0 a) : csr l D cA ad 19 p0 p0 p2 p3 g0 a t b (-7000002) := by
  intro g z hs
  have hI := hs.2.2.2.2
  have h1 : q_r p0 (z 0) := by rw [hs.2.1]; exact h
  exact (ax_kin_iae l D cA ad g _ z _ p0 p0 p2 p3 _ ⟨rfl, rfl, Nat.le_of_ble_eq_true rfl, Nat.le_of_ble_eq_true rfl⟩ (c_X5_kinx3 l htr D cA ad g z p0 p0 h1 h1 rfl hI.hz0)).mono rfl (fun x hx => ⟨g, z, hx, hs⟩)
theorem ri_entry (htr : l.stackTraces = false) (h : ¬ q_r p0 b) : csr l D cA ad 15 p0 p1 p2 p3 g0 a t b (-7000001) := by
  intro g z hs
  have hI := hs.2.2.2.2
  have h1 : ¬ q_r p0 (z 2) := by rw [hs.2.2.2.1]; exact h
  exact (ax_entry_iob l D cA ad g _ z _ p0 p1 p2 p3 _ ⟨rfl, rfl, Nat.le_of_ble_eq_true rfl, Nat.le_of_ble_eq_true rfl⟩ (c_X5_entryx l htr D cA ad g z p0 h1 hI.hz2)).mono rfl (fun x hx => ⟨g, z, hx, hs⟩)
theorem ri_size (htr : l.stackTraces = false) (h : ¬ q_r p0 b) : csr l D cA ad 16 p0 p1 p2 p3 g0 a t b (-7000001) := by
  intro g z hs
  have hI := hs.2.2.2.2
  have h1 : ¬ q_r p0 (z 2) := by rw [hs.2.2.2.1]; exact h
  exact (ax_size_iob l D cA ad g _ z _ p0 p1 p2 p3 _ ⟨rfl, rfl, Nat.le_of_ble_eq_true rfl, Nat.le_of_ble_eq_true rfl⟩ (c_X5_sizex l htr D cA ad g z p0 h1 hI.hz2)).mono rfl (fun x hx => ⟨g, z, hx, hs⟩)
theorem ri_careerAt (htr : l.stackTraces = false) (h : ¬ q_r p0 b) : csr l D cA ad 17 p0 p1 p2 p3 g0 a t b (-7000001) := by
  intro g z hs
  have hI := hs.2.2.2.2
  have h1 : ¬ q_r p0 (z 2) := by rw [hs.2.2.2.1]; exact h
  exact (ax_careerAt_iob l D cA ad g _ z _ p0 p1 p2 p3 _ ⟨rfl, rfl, Nat.le_of_ble_eq_true rfl, Nat.le_of_ble_eq_true rfl⟩ (c_X5_careerAtx l htr D cA ad g z p0 p1 h1 hI.hz2)).mono rfl (fun x hx => ⟨g, z, hx, hs⟩)
theorem ri_breaches (htr : l.stackTraces = false) (h : ¬ q_r p0 b) : csr l D cA ad 18 p0 p1 p2 p3 g0 a t b (-7000001) := by
  intro g z hs
  have hI := hs.2.2.2.2
  have h1 : ¬ q_r p0 (z 2) := by rw [hs.2.2.2.1]; exact h
  exact (ax_breaches_iob l D cA ad g _ z _ p0 p1 p2 p3 _ ⟨rfl, rfl, Nat.le_of_ble_eq_true rfl, Nat.le_of_ble_eq_true rfl⟩ (c_X5_breachesx l htr D cA ad g z p0 h1 hI.hz2)).mono rfl (fun x hx => ⟨g, z, hx, hs⟩)
theorem ri_degree (htr : l.stackTraces = false) (h : ¬ q_r p0 b) : csr l D cA ad 20 p0 p1 p2 p3 g0 a t b (-7000001) := by
  intro g z hs
  have hI := hs.2.2.2.2
  have h1 : ¬ q_r p0 (z 2) := by rw [hs.2.2.2.1]; exact h
  exact (ax_degree_iob l D cA ad g _ z _ p0 p1 p2 p3 _ ⟨rfl, rfl, Nat.le_of_ble_eq_true rfl, Nat.le_of_ble_eq_true rfl⟩ (c_X5_degreex l htr D cA ad g z p0 p1 h1 hI.hz2)).mono rfl (fun x hx => ⟨g, z, hx, hs⟩)
theorem rj_degree (htr : l.stackTraces = false) (h : ¬ q_r p1 b) : csr l D cA ad 20 p0 p1 p2 p3 g0 a t b (-7000001) := by
  by_cases h0 : q_r p0 b
  · intro g z hs
    have hI := hs.2.2.2.2
    have h1 : q_r p0 (z 2) := by rw [hs.2.2.2.1]; exact h0
    have h2 : ¬ q_r p1 (z 2) := by rw [hs.2.2.2.1]; exact h
    exact (ax_degree_iob l D cA ad g _ z _ p0 p1 p2 p3 _ ⟨rfl, rfl, Nat.le_of_ble_eq_true rfl, Nat.le_of_ble_eq_true rfl⟩ (c_X5_degreex2 l htr D cA ad g z p0 p1 h1 h2 hI.hz2)).mono rfl (fun x hx => ⟨g, z, hx, hs⟩)
  · exact ri_degree htr h0
theorem rm_po (htr : l.stackTraces = false) (h1 : ¬ p3 = (-1)) (h2 : ¬ q_r p3 8) : csr l D cA ad 0 p0 p1 p2 p3 g0 a t b (-7000001) := by
  intro g z hs
  have hI := hs.2.2.2.2
  exact (ax_mention_iob l D cA ad g _ z _ p0 p1 p2 p3 _ ⟨rfl, rfl, Nat.le_of_ble_eq_true rfl, Nat.le_of_ble_eq_true rfl⟩ (c_X5_mentionx l htr D cA ad g z p0 p1 p2 p3 h1 h2)).mono rfl (fun x hx => ⟨g, z, hx, hs⟩)
theorem rm_nm (htr : l.stackTraces = false) (h0 : p3 = (-1) ∨ q_r p3 8) (h : ¬ (¬ p0 < nI 0 ∧ p0 ≤ nI 9)) : csr l D cA ad 0 p0 p1 p2 p3 g0 a t b (-7000002) := by
  intro g z hs
  have hI := hs.2.2.2.2
  exact (ax_mention_iae l D cA ad g _ z _ p0 p1 p2 p3 _ ⟨rfl, rfl, Nat.le_of_ble_eq_true rfl, Nat.le_of_ble_eq_true rfl⟩ (c_X5_mentionx2 l htr D cA ad g z p0 p1 p2 p3 h0 h)).mono rfl (fun x hx => ⟨g, z, hx, hs⟩)
theorem rm_fm (htr : l.stackTraces = false) (h0 : p3 = (-1) ∨ q_r p3 8) (h1 : ¬ p0 < nI 0 ∧ p0 ≤ nI 9) (h : ¬ (¬ p1 < (-1) ∧ p1 ≤ nI 9)) : csr l D cA ad 0 p0 p1 p2 p3 g0 a t b (-7000002) := by
  intro g z hs
  have hI := hs.2.2.2.2
  exact (ax_mention_iae l D cA ad g _ z _ p0 p1 p2 p3 _ ⟨rfl, rfl, Nat.le_of_ble_eq_true rfl, Nat.le_of_ble_eq_true rfl⟩ (c_X5_mentionx3 l htr D cA ad g z p0 p1 p2 p3 h0 h1 h)).mono rfl (fun x hx => ⟨g, z, hx, hs⟩)
theorem rm_pl (htr : l.stackTraces = false) (h0 : p3 = (-1) ∨ q_r p3 8) (h1 : ¬ p0 < nI 0 ∧ p0 ≤ nI 9) (h2 : ¬ p1 < (-1) ∧ p1 ≤ nI 9) (h : ¬ (¬ p2 < nI 0 ∧ p2 ≤ nI 5)) : csr l D cA ad 0 p0 p1 p2 p3 g0 a t b (-7000002) := by
  intro g z hs
  have hI := hs.2.2.2.2
  exact (ax_mention_iae l D cA ad g _ z _ p0 p1 p2 p3 _ ⟨rfl, rfl, Nat.le_of_ble_eq_true rfl, Nat.le_of_ble_eq_true rfl⟩ (c_X5_mentionx4 l htr D cA ad g z p0 p1 p2 p3 h0 h1 h2 h)).mono rfl (fun x hx => ⟨g, z, hx, hs⟩)
theorem rr_po (htr : l.stackTraces = false) (h : ¬ q_r p0 8) : csr l D cA ad 1 p0 p1 p2 p3 g0 a t b (-7000001) := by
  intro g z hs
  have hI := hs.2.2.2.2
  exact (ax_rank_iob l D cA ad g _ z _ p0 p1 p2 p3 _ ⟨rfl, rfl, Nat.le_of_ble_eq_true rfl, Nat.le_of_ble_eq_true rfl⟩ (c_X5_rankx l htr D cA ad g z p0 p1 h)).mono rfl (fun x hx => ⟨g, z, hx, hs⟩)
theorem rr_rk (htr : l.stackTraces = false) (h0 : q_r p0 8) (h : ¬ (¬ p1 < nI 0 ∧ p1 ≤ nI 9)) : csr l D cA ad 1 p0 p1 p2 p3 g0 a t b (-7000002) := by
  intro g z hs
  have hI := hs.2.2.2.2
  exact (ax_rank_iae l D cA ad g _ z _ p0 p1 p2 p3 _ ⟨rfl, rfl, Nat.le_of_ble_eq_true rfl, Nat.le_of_ble_eq_true rfl⟩ (c_X5_rankx2 l htr D cA ad g z p0 p1 h0 h)).mono rfl (fun x hx => ⟨g, z, hx, hs⟩)
theorem rb_1 (htr : l.stackTraces = false) (h : ¬ q_r p0 8) : csr l D cA ad 2 p0 p1 p2 p3 g0 a t b (-7000001) := by
  intro g z hs
  have hI := hs.2.2.2.2
  exact (ax_bar_iob l D cA ad g _ z _ p0 p1 p2 p3 _ ⟨rfl, rfl, Nat.le_of_ble_eq_true rfl, Nat.le_of_ble_eq_true rfl⟩ (c_X5_barx l htr D cA ad g z p0 p1 (decide (p2 = nI 1)) h)).mono rfl (fun x hx => ⟨g, z, hx, hs⟩)
theorem rb_2 (htr : l.stackTraces = false) (h0 : q_r p0 8) (h : ¬ q_r p1 8) : csr l D cA ad 2 p0 p1 p2 p3 g0 a t b (-7000001) := by
  intro g z hs
  have hI := hs.2.2.2.2
  exact (ax_bar_iob l D cA ad g _ z _ p0 p1 p2 p3 _ ⟨rfl, rfl, Nat.le_of_ble_eq_true rfl, Nat.le_of_ble_eq_true rfl⟩ (c_X5_barx2 l htr D cA ad g z p0 p1 (decide (p2 = nI 1)) h0 h)).mono rfl (fun x hx => ⟨g, z, hx, hs⟩)
theorem rb_3 (htr : l.stackTraces = false) (h : q_r p0 8) : csr l D cA ad 2 p0 p0 p2 p3 g0 a t b (-7000002) := by
  intro g z hs
  have hI := hs.2.2.2.2
  exact (ax_bar_iae l D cA ad g _ z _ p0 p0 p2 p3 _ ⟨rfl, rfl, Nat.le_of_ble_eq_true rfl, Nat.le_of_ble_eq_true rfl⟩ (c_X5_barx3 l htr D cA ad g z p0 p0 (decide (p2 = nI 1)) h h rfl)).mono rfl (fun x hx => ⟨g, z, hx, hs⟩)
theorem rg_ahead (htr : l.stackTraces = false) {i j : Nat} (hi : i < a) (hj : j < a) (hij : ¬ i = j) (h : ¬ (¬ p2 < (-50) ∧ p2 ≤ nI 50)) : csr l D cA ad 3 (nI i) (nI j) p2 p3 g0 a t b (-7000002) := by
  intro g z hs
  have hI := hs.2.2.2.2
  exact (ax_ahead_iae l D cA ad g _ z _ (nI i) (nI j) p2 p3 _ ⟨rfl, rfl, Nat.le_of_ble_eq_true rfl, Nat.le_of_ble_eq_true rfl⟩ (c_X5_aheadx4 l htr D cA ad g z i j p2 (by rw [hs.2.1]; exact hi) (by rw [hs.2.1]; exact hj) hI.hz0 hij h)).mono rfl (fun x hx => ⟨g, z, hx, hs⟩)
theorem rl_find (htr : l.stackTraces = false) (h0 : q_r p0 a) (h : ¬ (¬ p1 < nI 0 ∧ p1 ≤ nI 999)) : csr l D cA ad 4 p0 p1 p2 p3 g0 a t b (-7000002) := by
  intro g z hs
  have hI := hs.2.2.2.2
  exact (ax_find_iae l D cA ad g _ z _ p0 p1 p2 p3 _ ⟨rfl, rfl, Nat.le_of_ble_eq_true rfl, Nat.le_of_ble_eq_true rfl⟩ (c_X5_findx2 l htr D cA ad g z p0 p1 p2 (by rw [hs.2.1]; exact h0) hI.hz0 h)).mono rfl (fun x hx => ⟨g, z, hx, hs⟩)
theorem rh_find (htr : l.stackTraces = false) (h0 : q_r p0 a) (h1 : ¬ p1 < nI 0 ∧ p1 ≤ nI 999) (h : ¬ (¬ p2 < p1 ∧ p2 ≤ nI 999)) : csr l D cA ad 4 p0 p1 p2 p3 g0 a t b (-7000002) := by
  intro g z hs
  have hI := hs.2.2.2.2
  exact (ax_find_iae l D cA ad g _ z _ p0 p1 p2 p3 _ ⟨rfl, rfl, Nat.le_of_ble_eq_true rfl, Nat.le_of_ble_eq_true rfl⟩ (c_X5_findx3 l htr D cA ad g z p0 p1 p2 (by rw [hs.2.1]; exact h0) hI.hz0 h1 h)).mono rfl (fun x hx => ⟨g, z, hx, hs⟩)
theorem rl_wouldMove (htr : l.stackTraces = false) (h0 : q_r p0 a) (h : ¬ (¬ p1 < nI 0 ∧ p1 ≤ nI 999)) : csr l D cA ad 5 p0 p1 p2 p3 g0 a t b (-7000002) := by
  intro g z hs
  have hI := hs.2.2.2.2
  exact (ax_wouldMove_iae l D cA ad g _ z _ p0 p1 p2 p3 _ ⟨rfl, rfl, Nat.le_of_ble_eq_true rfl, Nat.le_of_ble_eq_true rfl⟩ (c_X5_wouldMovex2 l htr D cA ad g z p0 p1 p2 (by rw [hs.2.1]; exact h0) hI.hz0 h)).mono rfl (fun x hx => ⟨g, z, hx, hs⟩)
theorem rh_wouldMove (htr : l.stackTraces = false) (h0 : q_r p0 a) (h1 : ¬ p1 < nI 0 ∧ p1 ≤ nI 999) (h : ¬ (¬ p2 < p1 ∧ p2 ≤ nI 999)) : csr l D cA ad 5 p0 p1 p2 p3 g0 a t b (-7000002) := by
  intro g z hs
  have hI := hs.2.2.2.2
  exact (ax_wouldMove_iae l D cA ad g _ z _ p0 p1 p2 p3 _ ⟨rfl, rfl, Nat.le_of_ble_eq_true rfl, Nat.le_of_ble_eq_true rfl⟩ (c_X5_wouldMovex3 l htr D cA ad g z p0 p1 p2 (by rw [hs.2.1]; exact h0) hI.hz0 h1 h)).mono rfl (fun x hx => ⟨g, z, hx, hs⟩)
theorem rc_neg (htr : l.stackTraces = false) {k : Nat} (hk : k < b) (h : p1 < 0) : csr l D cA ad 17 (nI k) p1 p2 p3 g0 a t b (-7000001) := by
  intro g z hs
  have hI := hs.2.2.2.2
  exact (ax_careerAt_iob l D cA ad g _ z _ (nI k) p1 p2 p3 _ ⟨rfl, rfl, Nat.le_of_ble_eq_true rfl, Nat.le_of_ble_eq_true rfl⟩ (c_X5_careerAtx2 l htr D cA ad g z k p1 (by rw [hs.2.2.2.1]; exact hk) hI.hz2 h)).mono rfl (fun x hx => ⟨g, z, hx, hs⟩)
theorem rc_big (htr : l.stackTraces = false) {k pl : Nat} (hk : k < b) (h16 : 16 ≤ pl) (hpl : pl < 2147483648) : csr l D cA ad 17 (nI k) (nI pl) p2 p3 g0 a t b (-1) := by
  intro g z hs
  have hI := hs.2.2.2.2
  have c5 := c_X5_careerAt l D cA ad g z k pl (by rw [hs.2.2.2.1]; exact hk) hI.hz2 hI.hz0 hpl
  have hL := layL_le g (g 23 k) (z 0)
  have hz := hI.hz0
  rw [if_neg (by omega)] at c5
  exact (ao_careerAt l D cA ad g _ z _ (nI k) (nI pl) p2 p3 _ (-1) ⟨rfl, rfl, Nat.le_of_ble_eq_true rfl, Nat.le_of_ble_eq_true rfl⟩ c5).mono rfl (fun x hx => ⟨_, _, hx, ⟨pe_sc rfl hs.1, hs.2.1, hs.2.2.1, hs.2.2.2.1, inv_sc rfl hI⟩⟩)
theorem rv_lb (htr : l.stackTraces = false) (h0 : q_r p0 a) (h : ¬ (¬ p1 < (-1) ∧ p1 ≤ nI 15)) : csr l D cA ad 23 p0 p1 p2 p3 g0 a t b (-7000002) := by
  intro g z hs
  have hI := hs.2.2.2.2
  exact (ax_rival_iae l D cA ad g _ z _ p0 p1 p2 p3 _ ⟨rfl, rfl, Nat.le_of_ble_eq_true rfl, Nat.le_of_ble_eq_true rfl⟩ (c_X5_rivalx2 l htr D cA ad g z p0 p1 (by rw [hs.2.1]; exact h0) hI.hz0 h)).mono rfl (fun x hx => ⟨g, z, hx, hs⟩)
theorem rt_best (htr : l.stackTraces = false) (h : ¬ p0 >>> (nI a &&& 31) = 0) : csr l D cA ad 21 p0 p1 p2 p3 g0 a t b (-7000002) := by
  intro g z hs
  have hI := hs.2.2.2.2
  exact (ax_best_iae l D cA ad g _ z _ p0 p1 p2 p3 _ ⟨rfl, rfl, Nat.le_of_ble_eq_true rfl, Nat.le_of_ble_eq_true rfl⟩ (c_X5_bestx l htr D cA ad g z p0 (by rw [hs.2.1]; exact h))).mono rfl (fun x hx => ⟨g, z, hx, hs⟩)
theorem ru_best (htr : l.stackTraces = false) {n : Nat} (h : n < 2 ^ a) (h6 : 6 < pcN n) : csr l D cA ad 21 (nI n) p1 p2 p3 g0 a t b (-7000002) := by
  intro g z hs
  have hI := hs.2.2.2.2
  exact (ax_best_iae l D cA ad g _ z _ (nI n) p1 p2 p3 _ ⟨rfl, rfl, Nat.le_of_ble_eq_true rfl, Nat.le_of_ble_eq_true rfl⟩ (c_X5_bestx2 l htr D cA ad g z n (by rw [hs.2.1]; exact h) h6 hI.hz0)).mono rfl (fun x hx => ⟨g, z, hx, hs⟩)
theorem rt_bestAnew (htr : l.stackTraces = false) (h : ¬ p0 >>> (nI a &&& 31) = 0) : csr l D cA ad 22 p0 p1 p2 p3 g0 a t b (-7000002) := by
  intro g z hs
  have hI := hs.2.2.2.2
  exact (ax_bestAnew_iae l D cA ad g _ z _ p0 p1 p2 p3 _ ⟨rfl, rfl, Nat.le_of_ble_eq_true rfl, Nat.le_of_ble_eq_true rfl⟩ (c_X5_bestAnewx l htr D cA ad g z p0 (by rw [hs.2.1]; exact h))).mono rfl (fun x hx => ⟨g, z, hx, hs⟩)
theorem ru_bestAnew (htr : l.stackTraces = false) {n : Nat} (h : n < 2 ^ a) (h6 : 6 < pcN n) : csr l D cA ad 22 (nI n) p1 p2 p3 g0 a t b (-7000002) := by
  intro g z hs
  have hI := hs.2.2.2.2
  exact (ax_bestAnew_iae l D cA ad g _ z _ (nI n) p1 p2 p3 _ ⟨rfl, rfl, Nat.le_of_ble_eq_true rfl, Nat.le_of_ble_eq_true rfl⟩ (c_X5_bestAnewx2 l htr D cA ad g z n (by rw [hs.2.1]; exact h) h6 hI.hz0)).mono rfl (fun x hx => ⟨g, z, hx, hs⟩)
end RA
section QR
variable {p : Program} {l : Launch} {e : Env} {R : Room} {s : State} {m : MethodId} {args : Array Value} {below : List Frame} {meth : Method} {c : Code} {H : Heap} {locs : List Loc} {cells slots : Nat} {Q : State → Prop}
variable {cc : ByteArray} {pc nL : Nat} {ls : Array Slot} {rest : List Value} {D : va_G} {A : Nat → Prop} {cA : ClassId} {lv : List (Nat × Value)} {st : List Value} {ad : Nat → Nat} {g g0 : Nat → Nat → Int32} {z : Nat → Nat} {a t b : Nat}
theorem q_cR {w : Nat} {p0 p1 p2 p3 r : Int32} {c2 s2 : Nat} (C : lcx p l s m c cc nL D cA A) (hs : SR g0 a t b g z) (hP : va_P D vwCl (rlW cA ad g z) H) (hD : va_D A (rlW cA ad g z)) (hS : va_S A s.heap H locs)
    (hM : csr l D cA ad w p0 p1 p2 p3 g0 a t b r) (hl : lv_has ls nL lv) (hst : st = .int p3 :: .int p2 :: .int p1 :: .int p0 :: .int (nI w) :: .ref (ad 70) :: rest) (hw : (rest.map fun v => v.category).sum ≤ 8)
    (hR : 10 ≤ R.frames ∧ 206 ≤ R.locals) (hc2 : cells + 1 ≤ c2 ∧ slots + 6 ≤ s2) (hf : c2 ≤ R.cells ∧ s2 ≤ R.slots) (hdg : decode cc pc = .ok (.invokestatic 102, 3))
    (kk : ∀ (g : Nat → Nat → Int32) (z : Nat → Nat) (H1 : Heap) (locs1 : List Loc), SR g0 a t b g z → va_P D vwCl (rlW cA ad g z) H1 → va_D A (rlW cA ad g z) → va_S A s.heap H1 locs1 → W p l e R s m args below meth c H1 locs1 c2 s2 Q (F0 m (pc + 3) ls (.int r :: rest))) : W p l e R s m args below meth c H locs cells slots Q (F0 m pc ls st) := by
  refine q_callA C.hx C.hb C.hml C.hown C.hT C.hK hP hD hS C.hA C.hX C.hN C.hZ (hM g z hs) k_L_act kl_L_102 q_BG_adr hl rfl hst hw hR hc2 hf hdg ?_
  rintro w H1 locs1 ⟨g2, z2, rfl, h2⟩ hP1 hD1 hS1
  exact kk g2 z2 H1 locs1 h2 hP1 hD1 hS1
end QR
