/-! the JDK's bit count, of numbers below 65536 -/
theorem kk_J6_265 : q_ok (.constant RJ6 265 (1431655765 : Int32)) := ⟨List.mem_of_getElem? (i := 675) (by decide +kernel), by decide +kernel⟩
theorem kk_J6_266 : q_ok (.constant RJ6 266 (858993459 : Int32)) := ⟨List.mem_of_getElem? (i := 676) (by decide +kernel), by decide +kernel⟩
theorem kk_J6_267 : q_ok (.constant RJ6 267 (252645135 : Int32)) := ⟨List.mem_of_getElem? (i := 677) (by decide +kernel), by decide +kernel⟩
theorem q_andN (a b : Nat) : nI a &&& nI b = nI (a &&& b) := by
  apply Int32.toBitVec_inj.mp
  show BitVec.ofNat 32 a &&& BitVec.ofNat 32 b = BitVec.ofNat 32 (a &&& b)
  apply BitVec.eq_of_toNat_eq
  simp only [BitVec.toNat_and, BitVec.toNat_ofNat]
  exact (Nat.and_mod_two_pow (n := 32)).symm
def bc1 (n : Nat) : Nat := n - (n / 2 &&& 1431655765)
def bc2 (n : Nat) : Nat := (n &&& 858993459) + (n / 4 &&& 858993459)
def bc3 (n : Nat) : Nat := n + n / 16 &&& 252645135
def pcN (n : Nat) : Nat := (bc3 (bc2 (bc1 n)) + bc3 (bc2 (bc1 n)) / 256 + (bc3 (bc2 (bc1 n)) + bc3 (bc2 (bc1 n)) / 256) / 65536) &&& 63
theorem bc1_le (n : Nat) : bc1 n ≤ n := Nat.sub_le _ _
theorem bc1_ok (n : Nat) : (n / 2 &&& 1431655765) ≤ n := Nat.le_trans Nat.and_le_left (Nat.div_le_self _ _)
theorem bc2_le (n : Nat) : bc2 n ≤ 1717986918 := by
  have h1 : (n &&& 858993459) ≤ 858993459 := Nat.and_le_right
  have h2 : (n / 4 &&& 858993459) ≤ 858993459 := Nat.and_le_right
  unfold bc2; omega
theorem bc3_le (n : Nat) : bc3 n ≤ 252645135 := Nat.and_le_right
theorem pcN_le (n : Nat) : pcN n ≤ 63 := Nat.and_le_right
/-- the bits of n below k, counted -/
def popN (n : Nat) : Nat → Nat
  | 0 => 0
  | k + 1 => if n / 2 ^ k % 2 = 1 then popN n k + 1 else popN n k
def popS (n : Nat) : Nat := n % 2 + (n / 2 % 2 + (n / 4 % 2 + (n / 8 % 2 + (n / 16 % 2 + (n / 32 % 2 + (n / 64 % 2 + (n / 128 % 2 + (n / 256 % 2 + (n / 512 % 2 + (n / 1024 % 2 + (n / 2048 % 2 + (n / 4096 % 2 + (n / 8192 % 2 + (n / 16384 % 2 + n / 32768 % 2))))))))))))))
def bcRow (a : Nat) : Nat → Bool
  | 0 => true
  | b + 1 => bcRow a b && Nat.beq (pcN (a + b)) (popS (a + b))
def bcAll (a : Nat) : Nat → Bool
  | 0 => true
  | k + 1 => bcAll a k && bcRow (a + k * 256) 256
theorem bcAll_0 : bcAll 0 16 = true := by decide +kernel
theorem bcAll_1 : bcAll 4096 16 = true := by decide +kernel
theorem bcAll_2 : bcAll 8192 16 = true := by decide +kernel
theorem bcAll_3 : bcAll 12288 16 = true := by decide +kernel
theorem bcAll_4 : bcAll 16384 16 = true := by decide +kernel
theorem bcAll_5 : bcAll 20480 16 = true := by decide +kernel
theorem bcAll_6 : bcAll 24576 16 = true := by decide +kernel
theorem bcAll_7 : bcAll 28672 16 = true := by decide +kernel
theorem bcAll_8 : bcAll 32768 16 = true := by decide +kernel
theorem bcAll_9 : bcAll 36864 16 = true := by decide +kernel
theorem bcAll_10 : bcAll 40960 16 = true := by decide +kernel
theorem bcAll_11 : bcAll 45056 16 = true := by decide +kernel
theorem bcAll_12 : bcAll 49152 16 = true := by decide +kernel
theorem bcAll_13 : bcAll 53248 16 = true := by decide +kernel
theorem bcAll_14 : bcAll 57344 16 = true := by decide +kernel
theorem bcAll_15 : bcAll 61440 16 = true := by decide +kernel
theorem bcRow_h {a : Nat} : ∀ {k : Nat}, bcRow a k = true → ∀ b, b < k → pcN (a + b) = popS (a + b)
  | 0, _, b, hb => by omega
  | k + 1, h, b, hb => by
    rw [bcRow, Bool.and_eq_true] at h
    rcases Nat.lt_or_ge b k with q | q
    · exact bcRow_h h.1 b q
    · rw [show b = k by omega]; exact Nat.eq_of_beq_eq_true h.2
theorem bcAll_h {a : Nat} : ∀ {k : Nat}, bcAll a k = true → ∀ c, c < k → ∀ b, b < 256 → pcN (a + c * 256 + b) = popS (a + c * 256 + b)
  | 0, _, c, hc => by omega
  | k + 1, h, c, hc => by
    rw [bcAll, Bool.and_eq_true] at h
    rcases Nat.lt_or_ge c k with q | q
    · exact bcAll_h h.1 c q
    · rw [show c = k by omega]; exact bcRow_h h.2
theorem bcAll_n {a n : Nat} (h : bcAll a 16 = true) (h1 : a ≤ n) (h2 : n < a + 4096) : pcN n = popS n := by
  have h3 := bcAll_h h ((n - a) / 256) (by omega) ((n - a) % 256) (by omega)
  rwa [show a + (n - a) / 256 * 256 + (n - a) % 256 = n by omega] at h3
theorem pcN_popS {n : Nat} (h : n < 65536) : pcN n = popS n := by
  rcases Nat.lt_or_ge n 4096 with q | q0
  · exact bcAll_n bcAll_0 (by omega) (by omega)
  rcases Nat.lt_or_ge n 8192 with q | q1
  · exact bcAll_n bcAll_1 (by omega) (by omega)
  rcases Nat.lt_or_ge n 12288 with q | q2
  · exact bcAll_n bcAll_2 (by omega) (by omega)
  rcases Nat.lt_or_ge n 16384 with q | q3
  · exact bcAll_n bcAll_3 (by omega) (by omega)
  rcases Nat.lt_or_ge n 20480 with q | q4
  · exact bcAll_n bcAll_4 (by omega) (by omega)
  rcases Nat.lt_or_ge n 24576 with q | q5
  · exact bcAll_n bcAll_5 (by omega) (by omega)
  rcases Nat.lt_or_ge n 28672 with q | q6
  · exact bcAll_n bcAll_6 (by omega) (by omega)
  rcases Nat.lt_or_ge n 32768 with q | q7
  · exact bcAll_n bcAll_7 (by omega) (by omega)
  rcases Nat.lt_or_ge n 36864 with q | q8
  · exact bcAll_n bcAll_8 (by omega) (by omega)
  rcases Nat.lt_or_ge n 40960 with q | q9
  · exact bcAll_n bcAll_9 (by omega) (by omega)
  rcases Nat.lt_or_ge n 45056 with q | q10
  · exact bcAll_n bcAll_10 (by omega) (by omega)
  rcases Nat.lt_or_ge n 49152 with q | q11
  · exact bcAll_n bcAll_11 (by omega) (by omega)
  rcases Nat.lt_or_ge n 53248 with q | q12
  · exact bcAll_n bcAll_12 (by omega) (by omega)
  rcases Nat.lt_or_ge n 57344 with q | q13
  · exact bcAll_n bcAll_13 (by omega) (by omega)
  rcases Nat.lt_or_ge n 61440 with q | q14
  · exact bcAll_n bcAll_14 (by omega) (by omega)
  exact bcAll_n bcAll_15 (by omega) (by omega)
theorem popN_s (n k : Nat) : popN n (k + 1) = popN n k + n / 2 ^ k % 2 := by
  rw [popN]; split <;> omega
theorem pcN_pop {n : Nat} (h : n < 65536) : pcN n = popN n 16 := by
  rw [pcN_popS h]
  unfold popS
  have h0 : popN n 0 = 0 := rfl
  have h1 : popN n 1 = popN n 0 + n % 2 := by have h := popN_s n 0; rwa [Nat.pow_zero, Nat.div_one] at h
  have h2 : popN n 2 = popN n 1 + n / 2 % 2 := popN_s n 1
  have h3 : popN n 3 = popN n 2 + n / 4 % 2 := popN_s n 2
  have h4 : popN n 4 = popN n 3 + n / 8 % 2 := popN_s n 3
  have h5 : popN n 5 = popN n 4 + n / 16 % 2 := popN_s n 4
  have h6 : popN n 6 = popN n 5 + n / 32 % 2 := popN_s n 5
  have h7 : popN n 7 = popN n 6 + n / 64 % 2 := popN_s n 6
  have h8 : popN n 8 = popN n 7 + n / 128 % 2 := popN_s n 7
  have h9 : popN n 9 = popN n 8 + n / 256 % 2 := popN_s n 8
  have h10 : popN n 10 = popN n 9 + n / 512 % 2 := popN_s n 9
  have h11 : popN n 11 = popN n 10 + n / 1024 % 2 := popN_s n 10
  have h12 : popN n 12 = popN n 11 + n / 2048 % 2 := popN_s n 11
  have h13 : popN n 13 = popN n 12 + n / 4096 % 2 := popN_s n 12
  have h14 : popN n 14 = popN n 13 + n / 8192 % 2 := popN_s n 13
  have h15 : popN n 15 = popN n 14 + n / 16384 % 2 := popN_s n 14
  have h16 : popN n 16 = popN n 15 + n / 32768 % 2 := popN_s n 15
  rw [h16, h15, h14, h13, h12, h11, h10, h9, h8, h7, h6, h5, h4, h3, h2, h1, h0]
  simp only [Nat.add_assoc, Nat.zero_add]
theorem q_shr0 {n k : Nat} (h : n < 2 ^ k) (hk : k ≤ 16) : nI n >>> (nI k &&& 31) = 0 := by
  have e : ∀ k, k ≤ 16 → nI k &&& 31 = nI k ∧ ((nI k).toBitVec.smod 32).toNat = k := by decide +kernel
  have h2 : 2 ^ k ≤ 2 ^ 16 := Nat.pow_le_pow_right (by omega) hk
  rw [(e k hk).1, pk_shrN (by omega) (nI k) k (e k hk).2, Nat.div_eq_of_lt h]
  exact nI_0
abbrev rm_J6_bitCount_0f7a4 : Room := { frames := 0, cells := 0, slots := 0, locals := 0 }
set_option maxRecDepth 100000 in
set_option maxHeartbeats 4000000 in
theorem c_J6_bitCount_0f7a4 (l : Launch) (D : va_G) (cA : ClassId) (n : Nat) (hn9 : n < 65536) : q_CI l yJ6_bitCount_0f7a4 [Cond.code yJ6_bitCount_0f7a4 cJ6_bitCount_0f7a4 1 (some .int)] rm_J6_bitCount_0f7a4 D cA [.int (nI n)] ([] : va_W) (nI (pcN n)) ([] : va_W) := by
  refine q_startI RJ6 (by decide +kernel) rfl (Nat.le_of_ble_eq_true rfl) ?_
  intro p e s m below meth c A args H locs ls hx hb hr hml hown hT hlk hP hK hD hA hS hl
  have hl : lv_has ls 1 [(0, .int (nI n))] := hl
  have hb1 := bc1_le n
  have hb2 := bc2_le (bc1 n)
  have hb3 := bc3_le (bc2 (bc1 n))
  refine lv_iload_n hx hb dJ6_bitCount_0f7a4_0 rfl (lv_at hl 0 rfl) ?_
  refine lv_iload_n hx hb dJ6_bitCount_0f7a4_1 rfl (lv_at hl 0 rfl) ?_
  refine lv_iconst (v := nI 1) hx hb dJ6_bitCount_0f7a4_2 (by decide +kernel) ?_
  refine lv_iushr (v := nI (n / 2)) hx hb dJ6_bitCount_0f7a4_3 (pk_ushrN (by omega) (nI 1) 1 (by decide +kernel)) ?_
  refine lv_ldcw (v := nI 1431655765) hx hb hown (hT.use kk_J6_265 args) dJ6_bitCount_0f7a4_4 ?_
  refine lv_iand hx hb dJ6_bitCount_0f7a4_7 ?_
  refine q_top (y := nI (n / 2 &&& 1431655765)) (q_andN _ _) ?_
  refine lv_isub hx hb dJ6_bitCount_0f7a4_8 ?_
  refine q_top (y := nI (bc1 n)) (pk_sub (bc1_ok n)) ?_
  refine lv_istore_n (lv' := [(0, .int (nI (bc1 n)))]) hx hb dJ6_bitCount_0f7a4_9 rfl hl (by decide) rfl (fun ls hl => ?_)
  refine lv_iload_n hx hb dJ6_bitCount_0f7a4_10 rfl (lv_at hl 0 rfl) ?_
  refine lv_ldcw (v := nI 858993459) hx hb hown (hT.use kk_J6_266 args) dJ6_bitCount_0f7a4_11 ?_
  refine lv_iand hx hb dJ6_bitCount_0f7a4_14 ?_
  refine q_top (y := nI (bc1 n &&& 858993459)) (q_andN _ _) ?_
  refine lv_iload_n hx hb dJ6_bitCount_0f7a4_15 rfl (lv_at hl 0 rfl) ?_
  refine lv_iconst (v := nI 2) hx hb dJ6_bitCount_0f7a4_16 (by decide +kernel) ?_
  refine lv_iushr (v := nI ((bc1 n) / 4)) hx hb dJ6_bitCount_0f7a4_17 (pk_ushrN (by omega) (nI 2) 2 (by decide +kernel)) ?_
  refine lv_ldcw (v := nI 858993459) hx hb hown (hT.use kk_J6_266 args) dJ6_bitCount_0f7a4_18 ?_
  refine lv_iand hx hb dJ6_bitCount_0f7a4_21 ?_
  refine q_top (y := nI (bc1 n / 4 &&& 858993459)) (q_andN _ _) ?_
  refine lv_iadd hx hb dJ6_bitCount_0f7a4_22 ?_
  refine q_top (y := nI (bc2 (bc1 n))) (nI_add _ _) ?_
  refine lv_istore_n (lv' := [(0, .int (nI (bc2 (bc1 n))))]) hx hb dJ6_bitCount_0f7a4_23 rfl hl (by decide) rfl (fun ls hl => ?_)
  refine lv_iload_n hx hb dJ6_bitCount_0f7a4_24 rfl (lv_at hl 0 rfl) ?_
  refine lv_iload_n hx hb dJ6_bitCount_0f7a4_25 rfl (lv_at hl 0 rfl) ?_
  refine lv_iconst (v := nI 4) hx hb dJ6_bitCount_0f7a4_26 (by decide +kernel) ?_
  refine lv_iushr (v := nI ((bc2 (bc1 n)) / 16)) hx hb dJ6_bitCount_0f7a4_27 (pk_ushrN (by omega) (nI 4) 4 (by decide +kernel)) ?_
  refine lv_iadd hx hb dJ6_bitCount_0f7a4_28 ?_
  refine q_top (y := nI (bc2 (bc1 n) + bc2 (bc1 n) / 16)) (nI_add _ _) ?_
  refine lv_ldcw (v := nI 252645135) hx hb hown (hT.use kk_J6_267 args) dJ6_bitCount_0f7a4_29 ?_
  refine lv_iand hx hb dJ6_bitCount_0f7a4_32 ?_
  refine q_top (y := nI (bc3 (bc2 (bc1 n)))) (q_andN _ _) ?_
  refine lv_istore_n (lv' := [(0, .int (nI (bc3 (bc2 (bc1 n)))))]) hx hb dJ6_bitCount_0f7a4_33 rfl hl (by decide) rfl (fun ls hl => ?_)
  refine lv_iload_n hx hb dJ6_bitCount_0f7a4_34 rfl (lv_at hl 0 rfl) ?_
  refine lv_iload_n hx hb dJ6_bitCount_0f7a4_35 rfl (lv_at hl 0 rfl) ?_
  refine lv_bipush (v := nI 8) hx hb dJ6_bitCount_0f7a4_36 (by decide +kernel) ?_
  refine lv_iushr (v := nI ((bc3 (bc2 (bc1 n))) / 256)) hx hb dJ6_bitCount_0f7a4_38 (pk_ushrN (by omega) (nI 8) 8 (by decide +kernel)) ?_
  refine lv_iadd hx hb dJ6_bitCount_0f7a4_39 ?_
  refine q_top (y := nI (bc3 (bc2 (bc1 n)) + bc3 (bc2 (bc1 n)) / 256)) (nI_add _ _) ?_
  refine lv_istore_n (lv' := [(0, .int (nI (bc3 (bc2 (bc1 n)) + bc3 (bc2 (bc1 n)) / 256)))]) hx hb dJ6_bitCount_0f7a4_40 rfl hl (by decide) rfl (fun ls hl => ?_)
  refine lv_iload_n hx hb dJ6_bitCount_0f7a4_41 rfl (lv_at hl 0 rfl) ?_
  refine lv_iload_n hx hb dJ6_bitCount_0f7a4_42 rfl (lv_at hl 0 rfl) ?_
  refine lv_bipush (v := nI 16) hx hb dJ6_bitCount_0f7a4_43 (by decide +kernel) ?_
  refine lv_iushr (v := nI ((bc3 (bc2 (bc1 n)) + bc3 (bc2 (bc1 n)) / 256) / 65536)) hx hb dJ6_bitCount_0f7a4_45 (pk_ushrN (by omega) (nI 16) 16 (by decide +kernel)) ?_
  refine lv_iadd hx hb dJ6_bitCount_0f7a4_46 ?_
  refine q_top (y := nI (bc3 (bc2 (bc1 n)) + bc3 (bc2 (bc1 n)) / 256 + (bc3 (bc2 (bc1 n)) + bc3 (bc2 (bc1 n)) / 256) / 65536)) (nI_add _ _) ?_
  refine lv_istore_n (lv' := [(0, .int (nI (bc3 (bc2 (bc1 n)) + bc3 (bc2 (bc1 n)) / 256 + (bc3 (bc2 (bc1 n)) + bc3 (bc2 (bc1 n)) / 256) / 65536)))]) hx hb dJ6_bitCount_0f7a4_47 rfl hl (by decide) rfl (fun ls hl => ?_)
  refine lv_iload_n hx hb dJ6_bitCount_0f7a4_48 rfl (lv_at hl 0 rfl) ?_
  refine lv_bipush (v := nI 63) hx hb dJ6_bitCount_0f7a4_49 (by decide +kernel) ?_
  refine lv_iand hx hb dJ6_bitCount_0f7a4_51 ?_
  refine q_top (y := nI (pcN n)) (q_andN _ _) ?_
  exact q_iret hx hb hr hlk (by rfl) hP hS dJ6_bitCount_0f7a4_52
abbrev rm_X5_needFewMentions : Room := { frames := 1, cells := 0, slots := 0, locals := 22 }
set_option maxRecDepth 100000 in
set_option maxHeartbeats 4000000 in
theorem c_X5_needFewMentions (l : Launch) (D : va_G) (cA : ClassId) (ad : Nat → Nat) (g : Nat → Nat → Int32) (z : Nat → Nat) (n : Nat) (hn9 : n < 2 ^ (z 0)) (hb9 : pcN n ≤ 6) (hc : (z 0) ≤ 16) : q_CV l yX5_needFewMentions [Cond.code yX5_needFewMentions cX5_needFewMentions 2 none] rm_X5_needFewMentions D cA [.ref (ad 70), .int (nI n)] (rlW cA ad g z) (rlW cA ad g z) := by
  refine q_startV RX5 (by decide +kernel) rfl (Nat.le_of_ble_eq_true rfl) ?_
  intro p e s m below meth c A args H locs ls hx hb hr hml hown hT hlk hP hK hD hA hS hl
  have hl : lv_has ls 2 [(0, .ref (ad 70)), (1, .int (nI n))] := hl
  have hp16 : 2 ^ z 0 ≤ 2 ^ 16 := Nat.pow_le_pow_right (by omega) hc
  refine lv_iload_n hx hb dX5_needFewMentions_0 rfl (lv_at hl 1 rfl) ?_
  refine lv_aload_n hx hb dX5_needFewMentions_1 rfl (lv_at hl 0 rfl) ?_
  refine q_get hx hb hT hown hK hP kw_X5 0 rfl rfl 15 (by decide) kf_X5_87 rfl (v := .int (nI (z 0))) rfl dX5_needFewMentions_2 ?_
  refine lv_ishr hx hb dX5_needFewMentions_5 ?_
  refine lv_if_eq (tgt := 19) hx hb dX5_needFewMentions_6 (by decide) (fun c_6 => ?_) (fun c_6 => ?_)
  · refine lv_iload_n hx hb dX5_needFewMentions_19 rfl (lv_at hl 1 rfl) ?_
    refine q_callSI (As := [.int (nI n)]) (r := nI (pcN n)) hx hb hml hown hT hK hP hD hS hA (c_J6_bitCount_0f7a4 l D cA n (by omega)) k_J6_bitCount_0f7a4 kl_X5_230 hl rfl rfl (Nat.le_of_ble_eq_true rfl) ⟨⟨rfl, rfl⟩, Nat.le_of_ble_eq_true rfl, Nat.le_of_ble_eq_true rfl⟩ ⟨Nat.zero_le _, Nat.zero_le _⟩ dX5_needFewMentions_20 (fun H locs hP hD hS => ?_)
    refine lv_iconst (v := nI 0) hx hb dX5_needFewMentions_23 (by decide +kernel) ?_
    refine lv_bipush (v := nI 6) hx hb dX5_needFewMentions_24 (by decide +kernel) ?_
    refine q_callSV (As := [.int (nI (pcN n)), .int (nI 0), .int (nI 6)]) hx hb hml hown hT hK hP hD hS hA (c_X5_needWithin l D cA (nI (pcN n)) (nI 0) (nI 6) (nI_nlt (by omega) (by omega)) (nI_le hb9 (by omega))) k_X5_needWithin kl_X5_83 hl rfl rfl (Nat.le_of_ble_eq_true rfl) ⟨⟨rfl, rfl⟩, Nat.le_of_ble_eq_true rfl, Nat.le_of_ble_eq_true rfl⟩ ⟨Nat.zero_le _, Nat.zero_le _⟩ dX5_needFewMentions_26 (fun H locs hP hD hS => ?_)
    exact q_vret hx hb hr hlk hP hS dX5_needFewMentions_29
  · exact absurd (q_shr0 hn9 hc) c_6
abbrev rm_X5_needFewMentionsx : Room := { frames := 6, cells := 1, slots := 6, locals := 82 }
set_option maxRecDepth 100000 in
set_option maxHeartbeats 4000000 in
theorem c_X5_needFewMentionsx (l : Launch) (htr : l.stackTraces = false) (D : va_G) (cA : ClassId) (ad : Nat → Nat) (g : Nat → Nat → Int32) (z : Nat → Nat) (w : Int32) (hw : ¬ w >>> (nI (z 0) &&& 31) = 0) : q_CX l yX5_needFewMentions [Cond.code yX5_needFewMentions cX5_needFewMentions 2 none] rm_X5_needFewMentionsx D cA [.ref (ad 70), .int w] (rlW cA ad g z) "java/lang/IllegalArgumentException" (rlW cA ad g z) := by
  refine q_startX RX5 (by decide +kernel) rfl (Nat.le_of_ble_eq_true rfl) ?_
  intro p e s m below meth c A args H locs ls hx hb hr hml hown hT hlk hP hK hD hA hS hl hout hX hZ
  have hl : lv_has ls 2 [(0, .ref (ad 70)), (1, .int w)] := hl
  refine lv_iload_n hx hb dX5_needFewMentions_0 rfl (lv_at hl 1 rfl) ?_
  refine lv_aload_n hx hb dX5_needFewMentions_1 rfl (lv_at hl 0 rfl) ?_
  refine q_get hx hb hT hown hK hP kw_X5 0 rfl rfl 15 (by decide) kf_X5_87 rfl (v := .int (nI (z 0))) rfl dX5_needFewMentions_2 ?_
  refine lv_ishr hx hb dX5_needFewMentions_5 ?_
  refine lv_if_eq (tgt := 19) hx hb dX5_needFewMentions_6 (by decide) (fun c_6 => ?_) (fun c_6 => ?_)
  · exact absurd c_6 hw
  · exact q_throw (text := "there are not all of these mentions") hx hb htr hml hown hT hX hZ hP hS hl hout hlk kx_X5_221 ki_java_lang_IllegalArgumentException (by decide +kernel) q_ok_iae (by decide +kernel) dX5_needFewMentions_9 dX5_needFewMentions_12 dX5_needFewMentions_13 dX5_needFewMentions_15 dX5_needFewMentions_18 ⟨Nat.le_of_ble_eq_true rfl, Nat.le_of_ble_eq_true rfl, Nat.le_of_ble_eq_true rfl, Nat.le_of_ble_eq_true rfl⟩
abbrev rm_X5_needFewMentionsx2 : Room := { frames := 7, cells := 1, slots := 6, locals := 104 }
set_option maxRecDepth 100000 in
set_option maxHeartbeats 4000000 in
theorem c_X5_needFewMentionsx2 (l : Launch) (htr : l.stackTraces = false) (D : va_G) (cA : ClassId) (ad : Nat → Nat) (g : Nat → Nat → Int32) (z : Nat → Nat) (n : Nat) (hn9 : n < 2 ^ (z 0)) (hb9 : 6 < pcN n) (hc : (z 0) ≤ 16) : q_CX l yX5_needFewMentions [Cond.code yX5_needFewMentions cX5_needFewMentions 2 none] rm_X5_needFewMentionsx2 D cA [.ref (ad 70), .int (nI n)] (rlW cA ad g z) "java/lang/IllegalArgumentException" (rlW cA ad g z) := by
  refine q_startX RX5 (by decide +kernel) rfl (Nat.le_of_ble_eq_true rfl) ?_
  intro p e s m below meth c A args H locs ls hx hb hr hml hown hT hlk hP hK hD hA hS hl hout hX hZ
  have hl : lv_has ls 2 [(0, .ref (ad 70)), (1, .int (nI n))] := hl
  have hp16 : 2 ^ z 0 ≤ 2 ^ 16 := Nat.pow_le_pow_right (by omega) hc
  have hpl := pcN_le n
  refine lv_iload_n hx hb dX5_needFewMentions_0 rfl (lv_at hl 1 rfl) ?_
  refine lv_aload_n hx hb dX5_needFewMentions_1 rfl (lv_at hl 0 rfl) ?_
  refine q_get hx hb hT hown hK hP kw_X5 0 rfl rfl 15 (by decide) kf_X5_87 rfl (v := .int (nI (z 0))) rfl dX5_needFewMentions_2 ?_
  refine lv_ishr hx hb dX5_needFewMentions_5 ?_
  refine lv_if_eq (tgt := 19) hx hb dX5_needFewMentions_6 (by decide) (fun c_6 => ?_) (fun c_6 => ?_)
  · refine lv_iload_n hx hb dX5_needFewMentions_19 rfl (lv_at hl 1 rfl) ?_
    refine q_callSI (As := [.int (nI n)]) (r := nI (pcN n)) hx hb hml hown hT hK hP hD hS hA (c_J6_bitCount_0f7a4 l D cA n (by omega)) k_J6_bitCount_0f7a4 kl_X5_230 hl rfl rfl (Nat.le_of_ble_eq_true rfl) ⟨⟨rfl, rfl⟩, Nat.le_of_ble_eq_true rfl, Nat.le_of_ble_eq_true rfl⟩ ⟨Nat.zero_le _, Nat.zero_le _⟩ dX5_needFewMentions_20 (fun H locs hP hD hS => ?_)
    refine lv_iconst (v := nI 0) hx hb dX5_needFewMentions_23 (by decide +kernel) ?_
    refine lv_bipush (v := nI 6) hx hb dX5_needFewMentions_24 (by decide +kernel) ?_
    exact q_callXS (As := [.int (nI (pcN n)), .int (nI 0), .int (nI 6)]) hx hb hml hown hT hK hP hD hS hA hout hlk hX hZ (c_X5_needWithinx l htr D cA (nI (pcN n)) (nI 0) (nI 6) (fun h => nI_ge hb9 (by omega) h.2)) k_X5_needWithin kl_X5_83 hl rfl rfl (Nat.le_of_ble_eq_true rfl) ⟨⟨rfl, rfl⟩, Nat.le_of_ble_eq_true rfl, Nat.le_of_ble_eq_true rfl⟩ ⟨Nat.le_of_ble_eq_true rfl, Nat.le_of_ble_eq_true rfl⟩ dX5_needFewMentions_26
  · exact absurd (q_shr0 hn9 hc) c_6
