abbrev rm_X6_mention : Room := { frames := 2, cells := 0, slots := 0, locals := 42 }
set_option maxRecDepth 100000 in
set_option maxHeartbeats 4000000 in
theorem c_X6_mention (l : Launch) (D : va_G) (cA : ClassId) (ad : Nat → Nat) (g : Nat → Nat → Int32) (z : Nat → Nat) (nm : Int32) (fm : Int32) (pl : Int32) (po : Int32) (hpo : po = (-1) ∨ q_r po 8) (hnm : ¬ nm < nI 0 ∧ nm ≤ nI 9) (hfm : ¬ fm < (-1) ∧ fm ≤ nI 9) (hpl : ¬ pl < nI 0 ∧ pl ≤ nI 5) (hz16 : (z 0) < 16) (hz40 : (z 2) < 40) : q_CI l yX6_mention [Cond.code yX6_mention cX6_mention 6 (some .int)] rm_X6_mention D cA [.ref (ad 80), .int nm, .int fm, .int pl, .int po] (mdW cA ad g z) (nI (z 0)) (mdW cA ad (gs (gs (gs (gs (gs (gs (gs (gs (gs (gs (gs g 0 (upd (g 0) (z 0) nm)) 1 (upd (g 1) (z 0) fm)) 2 (upd (g 2) (z 0) pl)) 3 (upd (g 3) (z 0) po)) 4 (upd (g 4) (z 0) (-1))) 12 (upd (g 12) (z 0) (nI 0))) 13 (upd (g 13) (z 0) (nI 999))) 17 (upd (g 17) (z 0) (nI 0))) 18 (upd (g 18) (z 0) (nI 999))) 22 (upd (g 22) (z 0) (nI (z 2)))) 23 (upd (g 23) (z 2) (nI (z 2)))) (zs (zs (zs z 0 ((z 0) + 1)) 2 ((z 2) + 1)) 4 0)) := by
  refine q_startI RX6 (by decide +kernel) rfl (Nat.le_of_ble_eq_true rfl) ?_
  intro p e s m below meth c A args H locs ls hx hb hr hml hown hT hlk hP hK hD hA hS hl
  have hl : lv_has ls 6 [(0, .ref (ad 80)), (1, .int nm), (2, .int fm), (3, .int pl), (4, .int po)] := hl
  have zqJ55 : ∀ (H : Heap) (locs : List Loc) (ls : Array Slot), va_P D vwCl (mdW cA ad g z) H → va_D A (mdW cA ad g z) → va_S A s.heap H locs → lv_has ls 6 [(0, .ref (ad 80)), (1, .int nm), (2, .int fm), (3, .int pl), (4, .int po), (5, .int (q_b (iN nm (nI 0) (nI 9) && iN fm (-1) (nI 9) && iN pl (nI 0) (nI 5))))] → W p l e rm_X6_mention s m args below meth c H locs 0 0 (q_GI D (nI (z 0)) (mdW cA ad (gs (gs (gs (gs (gs (gs (gs (gs (gs (gs (gs g 0 (upd (g 0) (z 0) nm)) 1 (upd (g 1) (z 0) fm)) 2 (upd (g 2) (z 0) pl)) 3 (upd (g 3) (z 0) po)) 4 (upd (g 4) (z 0) (-1))) 12 (upd (g 12) (z 0) (nI 0))) 13 (upd (g 13) (z 0) (nI 999))) 17 (upd (g 17) (z 0) (nI 0))) 18 (upd (g 18) (z 0) (nI 999))) 22 (upd (g 22) (z 0) (nI (z 2)))) 23 (upd (g 23) (z 2) (nI (z 2)))) (zs (zs (zs z 0 ((z 0) + 1)) 2 ((z 2) + 1)) 4 0)) A below args s) (F0 m 55 ls [.ref (ad 80)]) := by
    intro   H locs ls hP hD hS hl
    refine lv_iload hx hb dX6_mention_55 (lv_at hl 5 rfl) ?_
    refine lv_if_ne (tgt := 64) hx hb dX6_mention_57 (by decide) (fun c_57 => ?_) (fun c_57 => ?_)
    · have c_57 := q_b0n c_57
      refine lv_aload_n hx hb dX6_mention_64 rfl (lv_at hl 0 rfl) ?_
      refine q_get hx hb hT hown hK hP kw_X6 0 rfl rfl 0 (by decide) kf_X6_86 rfl (v := .int (nI (z 0))) rfl dX6_mention_65 ?_
      refine lv_bipush (v := nI 16) hx hb dX6_mention_68 (by decide +kernel) ?_
      refine lv_icmp_eq (tgt := 82) hx hb dX6_mention_70 (by decide) (fun c_70 => ?_) (fun c_70 => ?_)
      · have c_70 := nI_eq1 (a := z 0) (b := 16) (by omega) (by omega) c_70
        exfalso; omega
      · have c_70 := nI_eq0 (a := z 0) (b := 16) (by omega) (by omega) c_70
        refine lv_aload_n hx hb dX6_mention_73 rfl (lv_at hl 0 rfl) ?_
        refine q_get hx hb hT hown hK hP kw_X6 0 rfl rfl 21 (by decide) kf_X6_93 rfl (v := .int (nI (z 2))) rfl dX6_mention_74 ?_
        refine lv_bipush (v := nI 40) hx hb dX6_mention_77 (by decide +kernel) ?_
        refine lv_icmp_ne (tgt := 86) hx hb dX6_mention_79 (by decide) (fun c_79 => ?_) (fun c_79 => ?_)
        · have c_79 := nI_eq0 (a := z 2) (b := 40) (by omega) (by omega) c_79
          refine lv_iconst (v := nI 0) hx hb dX6_mention_86 (by decide +kernel) ?_
          refine q_put (ty := .int) (ws1 := mdW cA ad g (zs z 4 0)) hx hb hT hown hK hP hD hS kw_X6 tyX6_ok nmX6 0 rfl rfl 27 (by decide) kf_X6_82 rfl rfl (by decide +kernel) rfl rfl (Nat.le_of_ble_eq_true rfl) rfl dX6_mention_87 (fun H locs hP hD hS => ?_)
          refine lv_aload_n hx hb dX6_mention_90 rfl (lv_at hl 0 rfl) ?_
          refine q_get hx hb hT hown hK hP kw_X6 0 rfl rfl 27 (by decide) kf_X6_82 rfl (v := .int (nI 0)) rfl dX6_mention_91 ?_
          refine lv_if_le (tgt := 99) hx hb dX6_mention_94 (by decide) (fun c_94 => ?_) (fun c_94 => ?_)
          · have c_94 := nI_le1 (a := 0) (b := 0) (by omega) (by omega) c_94
            refine lv_aload_n hx hb dX6_mention_99 rfl (lv_at hl 0 rfl) ?_
            refine q_get hx hb hT hown hK hP kw_X6 0 rfl rfl 1 (by decide) kf_X6_7 rfl (v := .ref (ad 0)) rfl dX6_mention_100 ?_
            refine lv_aload_n hx hb dX6_mention_103 rfl (lv_at hl 0 rfl) ?_
            refine q_get hx hb hT hown hK hP kw_X6 0 rfl rfl 0 (by decide) kf_X6_86 rfl (v := .int (nI (z 0))) rfl dX6_mention_104 ?_
            refine lv_iload_n hx hb dX6_mention_107 rfl (lv_at hl 1 rfl) ?_
            refine q_iast (f := g 0) (ws1 := mdW cA ad (gs g 0 (upd (g 0) (z 0) nm)) (zs z 4 0)) hx hb hK hP hD hS 1 0 rfl rfl (z 0) rfl (by omega) (by omega) rfl dX6_mention_108 (fun H locs hP hD hS => ?_)
            obtain ⟨nF108_0, enF108_0⟩ : ∃ y : Nat → Int32, y = upd (g 0) (z 0) nm := ⟨_, rfl⟩
            have hP : va_P D vwCl (mdW cA ad (gs g 0 nF108_0) (zs z 4 0)) H := by rw [enF108_0]; exact hP
            have hD : va_D A (mdW cA ad (gs g 0 nF108_0) (zs z 4 0)) := by rw [enF108_0]; exact hD
            refine lv_aload_n hx hb dX6_mention_109 rfl (lv_at hl 0 rfl) ?_
            refine q_get hx hb hT hown hK hP kw_X6 0 rfl rfl 2 (by decide) kf_X6_13 rfl (v := .ref (ad 1)) rfl dX6_mention_110 ?_
            refine lv_aload_n hx hb dX6_mention_113 rfl (lv_at hl 0 rfl) ?_
            refine q_get hx hb hT hown hK hP kw_X6 0 rfl rfl 0 (by decide) kf_X6_86 rfl (v := .int (nI (z 0))) rfl dX6_mention_114 ?_
            refine lv_iload_n hx hb dX6_mention_117 rfl (lv_at hl 2 rfl) ?_
            refine q_iast (f := g 1) (ws1 := mdW cA ad (gs (gs g 0 nF108_0) 1 (upd (g 1) (z 0) fm)) (zs z 4 0)) hx hb hK hP hD hS 2 0 rfl rfl (z 0) rfl (by omega) (by omega) rfl dX6_mention_118 (fun H locs hP hD hS => ?_)
            obtain ⟨nF118_1, enF118_1⟩ : ∃ y : Nat → Int32, y = upd (g 1) (z 0) fm := ⟨_, rfl⟩
            have hP : va_P D vwCl (mdW cA ad (gs (gs g 0 nF108_0) 1 nF118_1) (zs z 4 0)) H := by rw [enF118_1]; exact hP
            have hD : va_D A (mdW cA ad (gs (gs g 0 nF108_0) 1 nF118_1) (zs z 4 0)) := by rw [enF118_1]; exact hD
            refine lv_aload_n hx hb dX6_mention_119 rfl (lv_at hl 0 rfl) ?_
            refine q_get hx hb hT hown hK hP kw_X6 0 rfl rfl 3 (by decide) kf_X6_16 rfl (v := .ref (ad 2)) rfl dX6_mention_120 ?_
            refine lv_aload_n hx hb dX6_mention_123 rfl (lv_at hl 0 rfl) ?_
            refine q_get hx hb hT hown hK hP kw_X6 0 rfl rfl 0 (by decide) kf_X6_86 rfl (v := .int (nI (z 0))) rfl dX6_mention_124 ?_
            refine lv_iload_n hx hb dX6_mention_127 rfl (lv_at hl 3 rfl) ?_
            refine q_iast (f := g 2) (ws1 := mdW cA ad (gs (gs (gs g 0 nF108_0) 1 nF118_1) 2 (upd (g 2) (z 0) pl)) (zs z 4 0)) hx hb hK hP hD hS 3 0 rfl rfl (z 0) rfl (by omega) (by omega) rfl dX6_mention_128 (fun H locs hP hD hS => ?_)
            obtain ⟨nF128_2, enF128_2⟩ : ∃ y : Nat → Int32, y = upd (g 2) (z 0) pl := ⟨_, rfl⟩
            have hP : va_P D vwCl (mdW cA ad (gs (gs (gs g 0 nF108_0) 1 nF118_1) 2 nF128_2) (zs z 4 0)) H := by rw [enF128_2]; exact hP
            have hD : va_D A (mdW cA ad (gs (gs (gs g 0 nF108_0) 1 nF118_1) 2 nF128_2) (zs z 4 0)) := by rw [enF128_2]; exact hD
            refine lv_aload_n hx hb dX6_mention_129 rfl (lv_at hl 0 rfl) ?_
            refine q_get hx hb hT hown hK hP kw_X6 0 rfl rfl 4 (by decide) kf_X6_19 rfl (v := .ref (ad 3)) rfl dX6_mention_130 ?_
            refine lv_aload_n hx hb dX6_mention_133 rfl (lv_at hl 0 rfl) ?_
            refine q_get hx hb hT hown hK hP kw_X6 0 rfl rfl 0 (by decide) kf_X6_86 rfl (v := .int (nI (z 0))) rfl dX6_mention_134 ?_
            refine lv_iload hx hb dX6_mention_137 (lv_at hl 4 rfl) ?_
            refine q_iast (f := g 3) (ws1 := mdW cA ad (gs (gs (gs (gs g 0 nF108_0) 1 nF118_1) 2 nF128_2) 3 (upd (g 3) (z 0) po)) (zs z 4 0)) hx hb hK hP hD hS 4 0 rfl rfl (z 0) rfl (by omega) (by omega) rfl dX6_mention_139 (fun H locs hP hD hS => ?_)
            obtain ⟨nF139_3, enF139_3⟩ : ∃ y : Nat → Int32, y = upd (g 3) (z 0) po := ⟨_, rfl⟩
            have hP : va_P D vwCl (mdW cA ad (gs (gs (gs (gs g 0 nF108_0) 1 nF118_1) 2 nF128_2) 3 nF139_3) (zs z 4 0)) H := by rw [enF139_3]; exact hP
            have hD : va_D A (mdW cA ad (gs (gs (gs (gs g 0 nF108_0) 1 nF118_1) 2 nF128_2) 3 nF139_3) (zs z 4 0)) := by rw [enF139_3]; exact hD
            refine lv_aload_n hx hb dX6_mention_140 rfl (lv_at hl 0 rfl) ?_
            refine q_get hx hb hT hown hK hP kw_X6 0 rfl rfl 11 (by decide) kf_X6_40 rfl (v := .ref (ad 12)) rfl dX6_mention_141 ?_
            refine lv_aload_n hx hb dX6_mention_144 rfl (lv_at hl 0 rfl) ?_
            refine q_get hx hb hT hown hK hP kw_X6 0 rfl rfl 0 (by decide) kf_X6_86 rfl (v := .int (nI (z 0))) rfl dX6_mention_145 ?_
            refine lv_iconst (v := nI 0) hx hb dX6_mention_148 (by decide +kernel) ?_
            refine q_iast (f := g 12) (ws1 := mdW cA ad (gs (gs (gs (gs (gs g 0 nF108_0) 1 nF118_1) 2 nF128_2) 3 nF139_3) 12 (upd (g 12) (z 0) (nI 0))) (zs z 4 0)) hx hb hK hP hD hS 11 0 rfl rfl (z 0) rfl (by omega) (by omega) rfl dX6_mention_149 (fun H locs hP hD hS => ?_)
            obtain ⟨nF149_12, enF149_12⟩ : ∃ y : Nat → Int32, y = upd (g 12) (z 0) (nI 0) := ⟨_, rfl⟩
            have hP : va_P D vwCl (mdW cA ad (gs (gs (gs (gs (gs g 0 nF108_0) 1 nF118_1) 2 nF128_2) 3 nF139_3) 12 nF149_12) (zs z 4 0)) H := by rw [enF149_12]; exact hP
            have hD : va_D A (mdW cA ad (gs (gs (gs (gs (gs g 0 nF108_0) 1 nF118_1) 2 nF128_2) 3 nF139_3) 12 nF149_12) (zs z 4 0)) := by rw [enF149_12]; exact hD
            refine lv_aload_n hx hb dX6_mention_150 rfl (lv_at hl 0 rfl) ?_
            refine q_get hx hb hT hown hK hP kw_X6 0 rfl rfl 12 (by decide) kf_X6_43 rfl (v := .ref (ad 13)) rfl dX6_mention_151 ?_
            refine lv_aload_n hx hb dX6_mention_154 rfl (lv_at hl 0 rfl) ?_
            refine q_get hx hb hT hown hK hP kw_X6 0 rfl rfl 0 (by decide) kf_X6_86 rfl (v := .int (nI (z 0))) rfl dX6_mention_155 ?_
            refine lv_sipush (v := nI 999) hx hb dX6_mention_158 (by decide +kernel) ?_
            refine q_iast (f := g 13) (ws1 := mdW cA ad (gs (gs (gs (gs (gs (gs g 0 nF108_0) 1 nF118_1) 2 nF128_2) 3 nF139_3) 12 nF149_12) 13 (upd (g 13) (z 0) (nI 999))) (zs z 4 0)) hx hb hK hP hD hS 12 0 rfl rfl (z 0) rfl (by omega) (by omega) rfl dX6_mention_161 (fun H locs hP hD hS => ?_)
            obtain ⟨nF161_13, enF161_13⟩ : ∃ y : Nat → Int32, y = upd (g 13) (z 0) (nI 999) := ⟨_, rfl⟩
            have hP : va_P D vwCl (mdW cA ad (gs (gs (gs (gs (gs (gs g 0 nF108_0) 1 nF118_1) 2 nF128_2) 3 nF139_3) 12 nF149_12) 13 nF161_13) (zs z 4 0)) H := by rw [enF161_13]; exact hP
            have hD : va_D A (mdW cA ad (gs (gs (gs (gs (gs (gs g 0 nF108_0) 1 nF118_1) 2 nF128_2) 3 nF139_3) 12 nF149_12) 13 nF161_13) (zs z 4 0)) := by rw [enF161_13]; exact hD
            refine lv_aload_n hx hb dX6_mention_162 rfl (lv_at hl 0 rfl) ?_
            refine q_get hx hb hT hown hK hP kw_X6 0 rfl rfl 13 (by decide) kf_X6_46 rfl (v := .ref (ad 17)) rfl dX6_mention_163 ?_
            refine lv_aload_n hx hb dX6_mention_166 rfl (lv_at hl 0 rfl) ?_
            refine q_get hx hb hT hown hK hP kw_X6 0 rfl rfl 0 (by decide) kf_X6_86 rfl (v := .int (nI (z 0))) rfl dX6_mention_167 ?_
            refine lv_iconst (v := nI 0) hx hb dX6_mention_170 (by decide +kernel) ?_
            refine q_iast (f := g 17) (ws1 := mdW cA ad (gs (gs (gs (gs (gs (gs (gs g 0 nF108_0) 1 nF118_1) 2 nF128_2) 3 nF139_3) 12 nF149_12) 13 nF161_13) 17 (upd (g 17) (z 0) (nI 0))) (zs z 4 0)) hx hb hK hP hD hS 13 0 rfl rfl (z 0) rfl (by omega) (by omega) rfl dX6_mention_171 (fun H locs hP hD hS => ?_)
            obtain ⟨nF171_17, enF171_17⟩ : ∃ y : Nat → Int32, y = upd (g 17) (z 0) (nI 0) := ⟨_, rfl⟩
            have hP : va_P D vwCl (mdW cA ad (gs (gs (gs (gs (gs (gs (gs g 0 nF108_0) 1 nF118_1) 2 nF128_2) 3 nF139_3) 12 nF149_12) 13 nF161_13) 17 nF171_17) (zs z 4 0)) H := by rw [enF171_17]; exact hP
            have hD : va_D A (mdW cA ad (gs (gs (gs (gs (gs (gs (gs g 0 nF108_0) 1 nF118_1) 2 nF128_2) 3 nF139_3) 12 nF149_12) 13 nF161_13) 17 nF171_17) (zs z 4 0)) := by rw [enF171_17]; exact hD
            refine lv_aload_n hx hb dX6_mention_172 rfl (lv_at hl 0 rfl) ?_
            refine q_get hx hb hT hown hK hP kw_X6 0 rfl rfl 14 (by decide) kf_X6_49 rfl (v := .ref (ad 18)) rfl dX6_mention_173 ?_
            refine lv_aload_n hx hb dX6_mention_176 rfl (lv_at hl 0 rfl) ?_
            refine q_get hx hb hT hown hK hP kw_X6 0 rfl rfl 0 (by decide) kf_X6_86 rfl (v := .int (nI (z 0))) rfl dX6_mention_177 ?_
            refine lv_sipush (v := nI 999) hx hb dX6_mention_180 (by decide +kernel) ?_
            refine q_iast (f := g 18) (ws1 := mdW cA ad (gs (gs (gs (gs (gs (gs (gs (gs g 0 nF108_0) 1 nF118_1) 2 nF128_2) 3 nF139_3) 12 nF149_12) 13 nF161_13) 17 nF171_17) 18 (upd (g 18) (z 0) (nI 999))) (zs z 4 0)) hx hb hK hP hD hS 14 0 rfl rfl (z 0) rfl (by omega) (by omega) rfl dX6_mention_183 (fun H locs hP hD hS => ?_)
            obtain ⟨nF183_18, enF183_18⟩ : ∃ y : Nat → Int32, y = upd (g 18) (z 0) (nI 999) := ⟨_, rfl⟩
            have hP : va_P D vwCl (mdW cA ad (gs (gs (gs (gs (gs (gs (gs (gs g 0 nF108_0) 1 nF118_1) 2 nF128_2) 3 nF139_3) 12 nF149_12) 13 nF161_13) 17 nF171_17) 18 nF183_18) (zs z 4 0)) H := by rw [enF183_18]; exact hP
            have hD : va_D A (mdW cA ad (gs (gs (gs (gs (gs (gs (gs (gs g 0 nF108_0) 1 nF118_1) 2 nF128_2) 3 nF139_3) 12 nF149_12) 13 nF161_13) 17 nF171_17) 18 nF183_18) (zs z 4 0)) := by rw [enF183_18]; exact hD
            refine lv_aload_n hx hb dX6_mention_184 rfl (lv_at hl 0 rfl) ?_
            refine q_get hx hb hT hown hK hP kw_X6 0 rfl rfl 10 (by decide) kf_X6_37 rfl (v := .ref (ad 4)) rfl dX6_mention_185 ?_
            refine lv_aload_n hx hb dX6_mention_188 rfl (lv_at hl 0 rfl) ?_
            refine q_get hx hb hT hown hK hP kw_X6 0 rfl rfl 0 (by decide) kf_X6_86 rfl (v := .int (nI (z 0))) rfl dX6_mention_189 ?_
            refine lv_iconst (v := (-1)) hx hb dX6_mention_192 (by decide +kernel) ?_
            refine q_iast (f := g 4) (ws1 := mdW cA ad (gs (gs (gs (gs (gs (gs (gs (gs (gs g 0 nF108_0) 1 nF118_1) 2 nF128_2) 3 nF139_3) 4 (upd (g 4) (z 0) (-1))) 12 nF149_12) 13 nF161_13) 17 nF171_17) 18 nF183_18) (zs z 4 0)) hx hb hK hP hD hS 10 0 rfl rfl (z 0) rfl (by omega) (by omega) rfl dX6_mention_193 (fun H locs hP hD hS => ?_)
            obtain ⟨nF193_4, enF193_4⟩ : ∃ y : Nat → Int32, y = upd (g 4) (z 0) (-1) := ⟨_, rfl⟩
            have hP : va_P D vwCl (mdW cA ad (gs (gs (gs (gs (gs (gs (gs (gs (gs g 0 nF108_0) 1 nF118_1) 2 nF128_2) 3 nF139_3) 4 nF193_4) 12 nF149_12) 13 nF161_13) 17 nF171_17) 18 nF183_18) (zs z 4 0)) H := by rw [enF193_4]; exact hP
            have hD : va_D A (mdW cA ad (gs (gs (gs (gs (gs (gs (gs (gs (gs g 0 nF108_0) 1 nF118_1) 2 nF128_2) 3 nF139_3) 4 nF193_4) 12 nF149_12) 13 nF161_13) 17 nF171_17) 18 nF183_18) (zs z 4 0)) := by rw [enF193_4]; exact hD
            refine lv_aload_n hx hb dX6_mention_194 rfl (lv_at hl 0 rfl) ?_
            refine lv_aload_n hx hb dX6_mention_195 rfl (lv_at hl 0 rfl) ?_
            refine q_get hx hb hT hown hK hP kw_X6 0 rfl rfl 0 (by decide) kf_X6_86 rfl (v := .int (nI (z 0))) rfl dX6_mention_196 ?_
            refine q_callIW (As := [.int (nI (z 0))]) (r := nI (z 2)) (w1 := mdW cA ad (gs (gs (gs (gs (gs (gs (gs (gs (gs (gs (gs g 0 nF108_0) 1 nF118_1) 2 nF128_2) 3 nF139_3) 4 nF193_4) 12 nF149_12) 13 nF161_13) 17 nF171_17) 18 nF183_18) 22 (upd (g 22) (z 0) (nI (z 2)))) 23 (upd (g 23) (z 2) (nI (z 2)))) (zs (zs z 2 ((z 2) + 1)) 4 0)) hx hb hml hown hT hK hP hD hS hA (c_X6_adds l D cA ad (gs (gs (gs (gs (gs (gs (gs (gs (gs g 0 nF108_0) 1 nF118_1) 2 nF128_2) 3 nF139_3) 4 nF193_4) 12 nF149_12) 13 nF161_13) 17 nF171_17) 18 nF183_18) (zs z 4 0) (z 0) (show (z 0) < 16 by omega) (show (z 2) < 40 by omega)) k_X6_adds kl_X6_100 (q0 := 0) rfl rfl rfl ((mdW_adr _ _ _ _).trans (mdW_adr _ _ _ _).symm) hl rfl rfl (Nat.le_of_ble_eq_true rfl) ⟨⟨rfl, rfl⟩, Nat.le_of_ble_eq_true rfl, Nat.le_of_ble_eq_true rfl⟩ ⟨Nat.zero_le _, Nat.zero_le _⟩ dX6_mention_199 (fun H locs hP hD hS => ?_)
            obtain ⟨nF199_22, enF199_22⟩ : ∃ y : Nat → Int32, y = upd (g 22) (z 0) (nI (z 2)) := ⟨_, rfl⟩
            have hP : va_P D vwCl (mdW cA ad (gs (gs (gs (gs (gs (gs (gs (gs (gs (gs (gs g 0 nF108_0) 1 nF118_1) 2 nF128_2) 3 nF139_3) 4 nF193_4) 12 nF149_12) 13 nF161_13) 17 nF171_17) 18 nF183_18) 22 nF199_22) 23 (upd (g 23) (z 2) (nI (z 2)))) (zs (zs z 2 ((z 2) + 1)) 4 0)) H := by rw [enF199_22]; exact hP
            have hD : va_D A (mdW cA ad (gs (gs (gs (gs (gs (gs (gs (gs (gs (gs (gs g 0 nF108_0) 1 nF118_1) 2 nF128_2) 3 nF139_3) 4 nF193_4) 12 nF149_12) 13 nF161_13) 17 nF171_17) 18 nF183_18) 22 nF199_22) 23 (upd (g 23) (z 2) (nI (z 2)))) (zs (zs z 2 ((z 2) + 1)) 4 0)) := by rw [enF199_22]; exact hD
            obtain ⟨nF199_23, enF199_23⟩ : ∃ y : Nat → Int32, y = upd (g 23) (z 2) (nI (z 2)) := ⟨_, rfl⟩
            have hP : va_P D vwCl (mdW cA ad (gs (gs (gs (gs (gs (gs (gs (gs (gs (gs (gs g 0 nF108_0) 1 nF118_1) 2 nF128_2) 3 nF139_3) 4 nF193_4) 12 nF149_12) 13 nF161_13) 17 nF171_17) 18 nF183_18) 22 nF199_22) 23 nF199_23) (zs (zs z 2 ((z 2) + 1)) 4 0)) H := by rw [enF199_23]; exact hP
            have hD : va_D A (mdW cA ad (gs (gs (gs (gs (gs (gs (gs (gs (gs (gs (gs g 0 nF108_0) 1 nF118_1) 2 nF128_2) 3 nF139_3) 4 nF193_4) 12 nF149_12) 13 nF161_13) 17 nF171_17) 18 nF183_18) 22 nF199_22) 23 nF199_23) (zs (zs z 2 ((z 2) + 1)) 4 0)) := by rw [enF199_23]; exact hD
            refine lv_pop hx hb dX6_mention_202 rfl ?_
            refine lv_aload_n hx hb dX6_mention_203 rfl (lv_at hl 0 rfl) ?_
            refine lv_dup hx hb dX6_mention_204 rfl ?_
            refine q_get hx hb hT hown hK hP kw_X6 0 rfl rfl 0 (by decide) kf_X6_86 rfl (v := .int (nI (z 0))) rfl dX6_mention_205 ?_
            refine lv_iconst (v := nI 1) hx hb dX6_mention_208 (by decide +kernel) ?_
            refine lv_iadd hx hb dX6_mention_209 ?_
            refine q_top (y := nI (z 0 + 1)) (nI_add _ _) ?_
            refine q_put (ty := .int) (ws1 := mdW cA ad (gs (gs (gs (gs (gs (gs (gs (gs (gs (gs (gs g 0 nF108_0) 1 nF118_1) 2 nF128_2) 3 nF139_3) 4 nF193_4) 12 nF149_12) 13 nF161_13) 17 nF171_17) 18 nF183_18) 22 nF199_22) 23 nF199_23) (zs (zs (zs z 0 (z 0 + 1)) 2 ((z 2) + 1)) 4 0)) hx hb hT hown hK hP hD hS kw_X6 tyX6_ok nmX6 0 rfl rfl 0 (by decide) kf_X6_86 rfl rfl (by decide +kernel) rfl rfl (Nat.le_of_ble_eq_true rfl) rfl dX6_mention_210 (fun H locs hP hD hS => ?_)
            refine lv_aload_n hx hb dX6_mention_213 rfl (lv_at hl 0 rfl) ?_
            refine q_get hx hb hT hown hK hP kw_X6 0 rfl rfl 0 (by decide) kf_X6_86 rfl (v := .int (nI (z 0 + 1))) rfl dX6_mention_214 ?_
            refine lv_iconst (v := nI 1) hx hb dX6_mention_217 (by decide +kernel) ?_
            refine lv_isub hx hb dX6_mention_218 ?_
            refine q_top (y := nI (z 0)) (q_sub1 _) ?_
            rw [enF199_23] at hP hD
            rw [enF199_22] at hP hD
            rw [enF193_4] at hP hD
            rw [enF183_18] at hP hD
            rw [enF171_17] at hP hD
            rw [enF161_13] at hP hD
            rw [enF149_12] at hP hD
            rw [enF139_3] at hP hD
            rw [enF128_2] at hP hD
            rw [enF118_1] at hP hD
            rw [enF108_0] at hP hD
            exact q_iret hx hb hr hlk (by rfl) (va_cast' hP (by rfl)) hS dX6_mention_219
          · have c_94 := nI_le0 (a := 0) (b := 0) (by omega) (by omega) c_94
            exfalso; omega
        · have c_79 := nI_eq1 (a := z 2) (b := 40) (by omega) (by omega) c_79
          exfalso; omega
    · have c_57 := q_b0e c_57
      exact absurd c_57 (by rw [iN_t hnm, iN_t hfm, iN_t hpl]; decide)
  have zqJ34 : ∀ (H : Heap) (locs : List Loc) (ls : Array Slot), va_P D vwCl (mdW cA ad g z) H → va_D A (mdW cA ad g z) → va_S A s.heap H locs → lv_has ls 6 [(0, .ref (ad 80)), (1, .int nm), (2, .int fm), (3, .int pl), (4, .int po)] → W p l e rm_X6_mention s m args below meth c H locs 0 0 (q_GI D (nI (z 0)) (mdW cA ad (gs (gs (gs (gs (gs (gs (gs (gs (gs (gs (gs g 0 (upd (g 0) (z 0) nm)) 1 (upd (g 1) (z 0) fm)) 2 (upd (g 2) (z 0) pl)) 3 (upd (g 3) (z 0) po)) 4 (upd (g 4) (z 0) (-1))) 12 (upd (g 12) (z 0) (nI 0))) 13 (upd (g 13) (z 0) (nI 999))) 17 (upd (g 17) (z 0) (nI 0))) 18 (upd (g 18) (z 0) (nI 999))) 22 (upd (g 22) (z 0) (nI (z 2)))) 23 (upd (g 23) (z 2) (nI (z 2)))) (zs (zs (zs z 0 ((z 0) + 1)) 2 ((z 2) + 1)) 4 0)) A below args s) (F0 m 34 ls [.int (q_b (iN nm (nI 0) (nI 9) && iN fm (-1) (nI 9) && iN pl (nI 0) (nI 5)))]) := by
    intro   H locs ls hP hD hS hl
    refine lv_istore (lv' := [(5, .int (q_b (iN nm (nI 0) (nI 9) && iN fm (-1) (nI 9) && iN pl (nI 0) (nI 5)))), (0, .ref (ad 80)), (1, .int nm), (2, .int fm), (3, .int pl), (4, .int po)]) hx hb dX6_mention_34 hl (by decide) rfl (fun ls hl => ?_)
    refine lv_aload_n hx hb dX6_mention_36 rfl (lv_at hl 1 rfl) ?_
    refine lv_iload hx hb dX6_mention_37 (lv_at hl 5 rfl) ?_
    refine lv_iconst (v := (-1)) hx hb dX6_mention_39 (by decide +kernel) ?_
    refine lv_icmp_eq (tgt := 55) hx hb dX6_mention_40 (by decide) (fun c_40 => ?_) (fun c_40 => ?_)
    · exact zqJ55   _ _ _ hP hD hS (lv_sub hl [1, 2, 3, 4, 5, 0] rfl)
    · refine lv_iload hx hb dX6_mention_43 (lv_at hl 5 rfl) ?_
      refine q_callSI (As := [.int po]) (r := q_b (mB po 8)) hx hb hml hown hT hK hP hD hS hA (c_X6_isPost l D cA po) k_X6_isPost kl_X6_96 hl rfl rfl (Nat.le_of_ble_eq_true rfl) ⟨⟨rfl, rfl⟩, Nat.le_of_ble_eq_true rfl, Nat.le_of_ble_eq_true rfl⟩ ⟨Nat.zero_le _, Nat.zero_le _⟩ dX6_mention_45 (fun H locs hP hD hS => ?_)
      refine lv_if_ne (tgt := 55) hx hb dX6_mention_48 (by decide) (fun c_48 => ?_) (fun c_48 => ?_)
      · have c_48 := q_b0n c_48
        exact zqJ55   _ _ _ hP hD hS (lv_sub hl [1, 2, 3, 4, 5, 0] rfl)
      · have c_48 := q_b0e c_48
        exact absurd c_48 (mB_F (hpo.resolve_left c_40) (by omega))
  refine lv_iload_n hx hb dX6_mention_0 rfl (lv_at hl 1 rfl) ?_
  refine lv_iconst (v := nI 0) hx hb dX6_mention_1 (by decide +kernel) ?_
  refine lv_bipush (v := nI 9) hx hb dX6_mention_2 (by decide +kernel) ?_
  refine q_callSI (As := [.int nm, .int (nI 0), .int (nI 9)]) (r := q_b (iN nm (nI 0) (nI 9))) hx hb hml hown hT hK hP hD hS hA (c_X6_isIn l D cA nm (nI 0) (nI 9)) k_X6_isIn kl_X6_89 hl rfl rfl (Nat.le_of_ble_eq_true rfl) ⟨⟨rfl, rfl⟩, Nat.le_of_ble_eq_true rfl, Nat.le_of_ble_eq_true rfl⟩ ⟨Nat.zero_le _, Nat.zero_le _⟩ dX6_mention_4 (fun H locs hP hD hS => ?_)
  refine lv_if_eq (tgt := 33) hx hb dX6_mention_7 (by decide) (fun c_7 => ?_) (fun c_7 => ?_)
  · have c_7 := q_b0e c_7
    refine lv_iconst (v := nI 0) hx hb dX6_mention_33 (by decide +kernel) ?_
    refine q_top (y := q_b (iN nm (nI 0) (nI 9) && iN fm (-1) (nI 9) && iN pl (nI 0) (nI 5))) (by first | exact q_bt (by rw [c_7, c_17, c_26]; rfl) | exact q_bf (by rw [c_7]; rfl) | exact q_bf (by rw [c_7, c_17]; rfl) | exact q_bf (by rw [c_7, c_17, c_26]; rfl)) ?_
    exact zqJ34   _ _ _ hP hD hS (lv_sub hl [0, 1, 2, 3, 4] rfl)
  · have c_7 := q_b0n c_7
    refine lv_iload_n hx hb dX6_mention_10 rfl (lv_at hl 2 rfl) ?_
    refine lv_iconst (v := (-1)) hx hb dX6_mention_11 (by decide +kernel) ?_
    refine lv_bipush (v := nI 9) hx hb dX6_mention_12 (by decide +kernel) ?_
    refine q_callSI (As := [.int fm, .int (-1), .int (nI 9)]) (r := q_b (iN fm (-1) (nI 9))) hx hb hml hown hT hK hP hD hS hA (c_X6_isIn l D cA fm (-1) (nI 9)) k_X6_isIn kl_X6_89 hl rfl rfl (Nat.le_of_ble_eq_true rfl) ⟨⟨rfl, rfl⟩, Nat.le_of_ble_eq_true rfl, Nat.le_of_ble_eq_true rfl⟩ ⟨Nat.zero_le _, Nat.zero_le _⟩ dX6_mention_14 (fun H locs hP hD hS => ?_)
    refine lv_if_eq (tgt := 33) hx hb dX6_mention_17 (by decide) (fun c_17 => ?_) (fun c_17 => ?_)
    · have c_17 := q_b0e c_17
      refine lv_iconst (v := nI 0) hx hb dX6_mention_33 (by decide +kernel) ?_
      refine q_top (y := q_b (iN nm (nI 0) (nI 9) && iN fm (-1) (nI 9) && iN pl (nI 0) (nI 5))) (by first | exact q_bt (by rw [c_7, c_17, c_26]; rfl) | exact q_bf (by rw [c_7]; rfl) | exact q_bf (by rw [c_7, c_17]; rfl) | exact q_bf (by rw [c_7, c_17, c_26]; rfl)) ?_
      exact zqJ34   _ _ _ hP hD hS (lv_sub hl [0, 1, 2, 3, 4] rfl)
    · have c_17 := q_b0n c_17
      refine lv_iload_n hx hb dX6_mention_20 rfl (lv_at hl 3 rfl) ?_
      refine lv_iconst (v := nI 0) hx hb dX6_mention_21 (by decide +kernel) ?_
      refine lv_iconst (v := nI 5) hx hb dX6_mention_22 (by decide +kernel) ?_
      refine q_callSI (As := [.int pl, .int (nI 0), .int (nI 5)]) (r := q_b (iN pl (nI 0) (nI 5))) hx hb hml hown hT hK hP hD hS hA (c_X6_isIn l D cA pl (nI 0) (nI 5)) k_X6_isIn kl_X6_89 hl rfl rfl (Nat.le_of_ble_eq_true rfl) ⟨⟨rfl, rfl⟩, Nat.le_of_ble_eq_true rfl, Nat.le_of_ble_eq_true rfl⟩ ⟨Nat.zero_le _, Nat.zero_le _⟩ dX6_mention_23 (fun H locs hP hD hS => ?_)
      refine lv_if_eq (tgt := 33) hx hb dX6_mention_26 (by decide) (fun c_26 => ?_) (fun c_26 => ?_)
      · have c_26 := q_b0e c_26
        refine lv_iconst (v := nI 0) hx hb dX6_mention_33 (by decide +kernel) ?_
        refine q_top (y := q_b (iN nm (nI 0) (nI 9) && iN fm (-1) (nI 9) && iN pl (nI 0) (nI 5))) (by first | exact q_bt (by rw [c_7, c_17, c_26]; rfl) | exact q_bf (by rw [c_7]; rfl) | exact q_bf (by rw [c_7, c_17]; rfl) | exact q_bf (by rw [c_7, c_17, c_26]; rfl)) ?_
        exact zqJ34   _ _ _ hP hD hS (lv_sub hl [0, 1, 2, 3, 4] rfl)
      · have c_26 := q_b0n c_26
        refine lv_iconst (v := nI 1) hx hb dX6_mention_29 (by decide +kernel) ?_
        refine lv_goto (tgt := 34) hx hb dX6_mention_30 (by decide) ?_
        refine q_top (y := q_b (iN nm (nI 0) (nI 9) && iN fm (-1) (nI 9) && iN pl (nI 0) (nI 5))) (by first | exact q_bt (by rw [c_7, c_17, c_26]; rfl) | exact q_bf (by rw [c_7]; rfl) | exact q_bf (by rw [c_7, c_17]; rfl) | exact q_bf (by rw [c_7, c_17, c_26]; rfl)) ?_
        exact zqJ34   _ _ _ hP hD hS (lv_sub hl [0, 1, 2, 3, 4] rfl)
abbrev rm_X6_mentionx : Room := { frames := 2, cells := 0, slots := 0, locals := 42 }
set_option maxRecDepth 100000 in
set_option maxHeartbeats 4000000 in
theorem c_X6_mentionx (l : Launch) (D : va_G) (cA : ClassId) (ad : Nat → Nat) (g : Nat → Nat → Int32) (z : Nat → Nat) (nm : Int32) (fm : Int32) (pl : Int32) (po : Int32) (hp1 : ¬ po = (-1)) (hp2 : ¬ q_r po 8) : q_CI l yX6_mention [Cond.code yX6_mention cX6_mention 6 (some .int)] rm_X6_mentionx D cA [.ref (ad 80), .int nm, .int fm, .int pl, .int po] (mdW cA ad g z) (nI 0) (mdW cA ad g (zs z 4 1)) := by
  refine q_startI RX6 (by decide +kernel) rfl (Nat.le_of_ble_eq_true rfl) ?_
  intro p e s m below meth c A args H locs ls hx hb hr hml hown hT hlk hP hK hD hA hS hl
  have hl : lv_has ls 6 [(0, .ref (ad 80)), (1, .int nm), (2, .int fm), (3, .int pl), (4, .int po)] := hl
  have zqJ34 : ∀ (H : Heap) (locs : List Loc) (ls : Array Slot), va_P D vwCl (mdW cA ad g z) H → va_D A (mdW cA ad g z) → va_S A s.heap H locs → lv_has ls 6 [(0, .ref (ad 80)), (1, .int nm), (2, .int fm), (3, .int pl), (4, .int po)] → W p l e rm_X6_mentionx s m args below meth c H locs 0 0 (q_GI D (nI 0) (mdW cA ad g (zs z 4 1)) A below args s) (F0 m 34 ls [.int (q_b (iN nm (nI 0) (nI 9) && iN fm (-1) (nI 9) && iN pl (nI 0) (nI 5)))]) := by
    intro   H locs ls hP hD hS hl
    refine lv_istore (lv' := [(5, .int (q_b (iN nm (nI 0) (nI 9) && iN fm (-1) (nI 9) && iN pl (nI 0) (nI 5)))), (0, .ref (ad 80)), (1, .int nm), (2, .int fm), (3, .int pl), (4, .int po)]) hx hb dX6_mention_34 hl (by decide) rfl (fun ls hl => ?_)
    refine lv_aload_n hx hb dX6_mention_36 rfl (lv_at hl 1 rfl) ?_
    refine lv_iload hx hb dX6_mention_37 (lv_at hl 5 rfl) ?_
    refine lv_iconst (v := (-1)) hx hb dX6_mention_39 (by decide +kernel) ?_
    refine lv_icmp_eq (tgt := 55) hx hb dX6_mention_40 (by decide) (fun c_40 => ?_) (fun c_40 => ?_)
    · exact absurd c_40 hp1
    · refine lv_iload hx hb dX6_mention_43 (lv_at hl 5 rfl) ?_
      refine q_callSI (As := [.int po]) (r := q_b (mB po 8)) hx hb hml hown hT hK hP hD hS hA (c_X6_isPost l D cA po) k_X6_isPost kl_X6_96 hl rfl rfl (Nat.le_of_ble_eq_true rfl) ⟨⟨rfl, rfl⟩, Nat.le_of_ble_eq_true rfl, Nat.le_of_ble_eq_true rfl⟩ ⟨Nat.zero_le _, Nat.zero_le _⟩ dX6_mention_45 (fun H locs hP hD hS => ?_)
      refine lv_if_ne (tgt := 55) hx hb dX6_mention_48 (by decide) (fun c_48 => ?_) (fun c_48 => ?_)
      · have c_48 := q_b0n c_48
        exact absurd c_48 (mB_T hp2 (by omega))
      · have c_48 := q_b0e c_48
        refine lv_iconst (v := nI 1) hx hb dX6_mention_51 (by decide +kernel) ?_
        refine lv_goto (tgt := 87) hx hb dX6_mention_52 (by decide) ?_
        refine q_put (ty := .int) (ws1 := mdW cA ad g (zs z 4 1)) hx hb hT hown hK hP hD hS kw_X6 tyX6_ok nmX6 0 rfl rfl 27 (by decide) kf_X6_82 rfl rfl (by decide +kernel) rfl rfl (Nat.le_of_ble_eq_true rfl) rfl dX6_mention_87 (fun H locs hP hD hS => ?_)
        refine lv_aload_n hx hb dX6_mention_90 rfl (lv_at hl 1 rfl) ?_
        refine q_get hx hb hT hown hK hP kw_X6 0 rfl rfl 27 (by decide) kf_X6_82 rfl (v := .int (nI 1)) rfl dX6_mention_91 ?_
        refine lv_if_le (tgt := 99) hx hb dX6_mention_94 (by decide) (fun c_94 => ?_) (fun c_94 => ?_)
        · have c_94 := nI_le1 (a := 1) (b := 0) (by omega) (by omega) c_94
          exfalso; omega
        · have c_94 := nI_le0 (a := 1) (b := 0) (by omega) (by omega) c_94
          refine lv_iconst (v := nI 0) hx hb dX6_mention_97 (by decide +kernel) ?_
          exact q_iret hx hb hr hlk (by rfl) hP hS dX6_mention_98
  refine lv_iload_n hx hb dX6_mention_0 rfl (lv_at hl 1 rfl) ?_
  refine lv_iconst (v := nI 0) hx hb dX6_mention_1 (by decide +kernel) ?_
  refine lv_bipush (v := nI 9) hx hb dX6_mention_2 (by decide +kernel) ?_
  refine q_callSI (As := [.int nm, .int (nI 0), .int (nI 9)]) (r := q_b (iN nm (nI 0) (nI 9))) hx hb hml hown hT hK hP hD hS hA (c_X6_isIn l D cA nm (nI 0) (nI 9)) k_X6_isIn kl_X6_89 hl rfl rfl (Nat.le_of_ble_eq_true rfl) ⟨⟨rfl, rfl⟩, Nat.le_of_ble_eq_true rfl, Nat.le_of_ble_eq_true rfl⟩ ⟨Nat.zero_le _, Nat.zero_le _⟩ dX6_mention_4 (fun H locs hP hD hS => ?_)
  refine lv_if_eq (tgt := 33) hx hb dX6_mention_7 (by decide) (fun c_7 => ?_) (fun c_7 => ?_)
  · have c_7 := q_b0e c_7
    refine lv_iconst (v := nI 0) hx hb dX6_mention_33 (by decide +kernel) ?_
    refine q_top (y := q_b (iN nm (nI 0) (nI 9) && iN fm (-1) (nI 9) && iN pl (nI 0) (nI 5))) (by first | exact q_bt (by rw [c_7, c_17, c_26]; rfl) | exact q_bf (by rw [c_7]; rfl) | exact q_bf (by rw [c_7, c_17]; rfl) | exact q_bf (by rw [c_7, c_17, c_26]; rfl)) ?_
    exact zqJ34   _ _ _ hP hD hS (lv_sub hl [0, 1, 2, 3, 4] rfl)
  · have c_7 := q_b0n c_7
    refine lv_iload_n hx hb dX6_mention_10 rfl (lv_at hl 2 rfl) ?_
    refine lv_iconst (v := (-1)) hx hb dX6_mention_11 (by decide +kernel) ?_
    refine lv_bipush (v := nI 9) hx hb dX6_mention_12 (by decide +kernel) ?_
    refine q_callSI (As := [.int fm, .int (-1), .int (nI 9)]) (r := q_b (iN fm (-1) (nI 9))) hx hb hml hown hT hK hP hD hS hA (c_X6_isIn l D cA fm (-1) (nI 9)) k_X6_isIn kl_X6_89 hl rfl rfl (Nat.le_of_ble_eq_true rfl) ⟨⟨rfl, rfl⟩, Nat.le_of_ble_eq_true rfl, Nat.le_of_ble_eq_true rfl⟩ ⟨Nat.zero_le _, Nat.zero_le _⟩ dX6_mention_14 (fun H locs hP hD hS => ?_)
    refine lv_if_eq (tgt := 33) hx hb dX6_mention_17 (by decide) (fun c_17 => ?_) (fun c_17 => ?_)
    · have c_17 := q_b0e c_17
      refine lv_iconst (v := nI 0) hx hb dX6_mention_33 (by decide +kernel) ?_
      refine q_top (y := q_b (iN nm (nI 0) (nI 9) && iN fm (-1) (nI 9) && iN pl (nI 0) (nI 5))) (by first | exact q_bt (by rw [c_7, c_17, c_26]; rfl) | exact q_bf (by rw [c_7]; rfl) | exact q_bf (by rw [c_7, c_17]; rfl) | exact q_bf (by rw [c_7, c_17, c_26]; rfl)) ?_
      exact zqJ34   _ _ _ hP hD hS (lv_sub hl [0, 1, 2, 3, 4] rfl)
    · have c_17 := q_b0n c_17
      refine lv_iload_n hx hb dX6_mention_20 rfl (lv_at hl 3 rfl) ?_
      refine lv_iconst (v := nI 0) hx hb dX6_mention_21 (by decide +kernel) ?_
      refine lv_iconst (v := nI 5) hx hb dX6_mention_22 (by decide +kernel) ?_
      refine q_callSI (As := [.int pl, .int (nI 0), .int (nI 5)]) (r := q_b (iN pl (nI 0) (nI 5))) hx hb hml hown hT hK hP hD hS hA (c_X6_isIn l D cA pl (nI 0) (nI 5)) k_X6_isIn kl_X6_89 hl rfl rfl (Nat.le_of_ble_eq_true rfl) ⟨⟨rfl, rfl⟩, Nat.le_of_ble_eq_true rfl, Nat.le_of_ble_eq_true rfl⟩ ⟨Nat.zero_le _, Nat.zero_le _⟩ dX6_mention_23 (fun H locs hP hD hS => ?_)
      refine lv_if_eq (tgt := 33) hx hb dX6_mention_26 (by decide) (fun c_26 => ?_) (fun c_26 => ?_)
      · have c_26 := q_b0e c_26
        refine lv_iconst (v := nI 0) hx hb dX6_mention_33 (by decide +kernel) ?_
        refine q_top (y := q_b (iN nm (nI 0) (nI 9) && iN fm (-1) (nI 9) && iN pl (nI 0) (nI 5))) (by first | exact q_bt (by rw [c_7, c_17, c_26]; rfl) | exact q_bf (by rw [c_7]; rfl) | exact q_bf (by rw [c_7, c_17]; rfl) | exact q_bf (by rw [c_7, c_17, c_26]; rfl)) ?_
        exact zqJ34   _ _ _ hP hD hS (lv_sub hl [0, 1, 2, 3, 4] rfl)
      · have c_26 := q_b0n c_26
        refine lv_iconst (v := nI 1) hx hb dX6_mention_29 (by decide +kernel) ?_
        refine lv_goto (tgt := 34) hx hb dX6_mention_30 (by decide) ?_
        refine q_top (y := q_b (iN nm (nI 0) (nI 9) && iN fm (-1) (nI 9) && iN pl (nI 0) (nI 5))) (by first | exact q_bt (by rw [c_7, c_17, c_26]; rfl) | exact q_bf (by rw [c_7]; rfl) | exact q_bf (by rw [c_7, c_17]; rfl) | exact q_bf (by rw [c_7, c_17, c_26]; rfl)) ?_
        exact zqJ34   _ _ _ hP hD hS (lv_sub hl [0, 1, 2, 3, 4] rfl)
abbrev rm_X6_mentionx2 : Room := { frames := 2, cells := 0, slots := 0, locals := 42 }
set_option maxRecDepth 100000 in
set_option maxHeartbeats 4000000 in
theorem c_X6_mentionx2 (l : Launch) (D : va_G) (cA : ClassId) (ad : Nat → Nat) (g : Nat → Nat → Int32) (z : Nat → Nat) (nm : Int32) (fm : Int32) (pl : Int32) (po : Int32) (hpo : po = (-1) ∨ q_r po 8) (hnf : ¬ ((¬ nm < nI 0 ∧ nm ≤ nI 9) ∧ (¬ fm < (-1) ∧ fm ≤ nI 9) ∧ (¬ pl < nI 0 ∧ pl ≤ nI 5))) : q_CI l yX6_mention [Cond.code yX6_mention cX6_mention 6 (some .int)] rm_X6_mentionx2 D cA [.ref (ad 80), .int nm, .int fm, .int pl, .int po] (mdW cA ad g z) (nI 0) (mdW cA ad g (zs z 4 2)) := by
  refine q_startI RX6 (by decide +kernel) rfl (Nat.le_of_ble_eq_true rfl) ?_
  intro p e s m below meth c A args H locs ls hx hb hr hml hown hT hlk hP hK hD hA hS hl
  have hl : lv_has ls 6 [(0, .ref (ad 80)), (1, .int nm), (2, .int fm), (3, .int pl), (4, .int po)] := hl
  have zqJ55 : ∀ (H : Heap) (locs : List Loc) (ls : Array Slot), va_P D vwCl (mdW cA ad g z) H → va_D A (mdW cA ad g z) → va_S A s.heap H locs → lv_has ls 6 [(0, .ref (ad 80)), (1, .int nm), (2, .int fm), (3, .int pl), (4, .int po), (5, .int (q_b (iN nm (nI 0) (nI 9) && iN fm (-1) (nI 9) && iN pl (nI 0) (nI 5))))] → W p l e rm_X6_mentionx2 s m args below meth c H locs 0 0 (q_GI D (nI 0) (mdW cA ad g (zs z 4 2)) A below args s) (F0 m 55 ls [.ref (ad 80)]) := by
    intro   H locs ls hP hD hS hl
    refine lv_iload hx hb dX6_mention_55 (lv_at hl 5 rfl) ?_
    refine lv_if_ne (tgt := 64) hx hb dX6_mention_57 (by decide) (fun c_57 => ?_) (fun c_57 => ?_)
    · have c_57 := q_b0n c_57
      rw [Bool.and_eq_true, Bool.and_eq_true] at c_57; exact absurd ⟨iN_e c_57.1.1, iN_e c_57.1.2, iN_e c_57.2⟩ hnf
    · have c_57 := q_b0e c_57
      refine lv_iconst (v := nI 2) hx hb dX6_mention_60 (by decide +kernel) ?_
      refine lv_goto (tgt := 87) hx hb dX6_mention_61 (by decide) ?_
      refine q_put (ty := .int) (ws1 := mdW cA ad g (zs z 4 2)) hx hb hT hown hK hP hD hS kw_X6 tyX6_ok nmX6 0 rfl rfl 27 (by decide) kf_X6_82 rfl rfl (by decide +kernel) rfl rfl (Nat.le_of_ble_eq_true rfl) rfl dX6_mention_87 (fun H locs hP hD hS => ?_)
      refine lv_aload_n hx hb dX6_mention_90 rfl (lv_at hl 0 rfl) ?_
      refine q_get hx hb hT hown hK hP kw_X6 0 rfl rfl 27 (by decide) kf_X6_82 rfl (v := .int (nI 2)) rfl dX6_mention_91 ?_
      refine lv_if_le (tgt := 99) hx hb dX6_mention_94 (by decide) (fun c_94 => ?_) (fun c_94 => ?_)
      · have c_94 := nI_le1 (a := 2) (b := 0) (by omega) (by omega) c_94
        exfalso; omega
      · have c_94 := nI_le0 (a := 2) (b := 0) (by omega) (by omega) c_94
        refine lv_iconst (v := nI 0) hx hb dX6_mention_97 (by decide +kernel) ?_
        exact q_iret hx hb hr hlk (by rfl) hP hS dX6_mention_98
  have zqJ34 : ∀ (H : Heap) (locs : List Loc) (ls : Array Slot), va_P D vwCl (mdW cA ad g z) H → va_D A (mdW cA ad g z) → va_S A s.heap H locs → lv_has ls 6 [(0, .ref (ad 80)), (1, .int nm), (2, .int fm), (3, .int pl), (4, .int po)] → W p l e rm_X6_mentionx2 s m args below meth c H locs 0 0 (q_GI D (nI 0) (mdW cA ad g (zs z 4 2)) A below args s) (F0 m 34 ls [.int (q_b (iN nm (nI 0) (nI 9) && iN fm (-1) (nI 9) && iN pl (nI 0) (nI 5)))]) := by
    intro   H locs ls hP hD hS hl
    refine lv_istore (lv' := [(5, .int (q_b (iN nm (nI 0) (nI 9) && iN fm (-1) (nI 9) && iN pl (nI 0) (nI 5)))), (0, .ref (ad 80)), (1, .int nm), (2, .int fm), (3, .int pl), (4, .int po)]) hx hb dX6_mention_34 hl (by decide) rfl (fun ls hl => ?_)
    refine lv_aload_n hx hb dX6_mention_36 rfl (lv_at hl 1 rfl) ?_
    refine lv_iload hx hb dX6_mention_37 (lv_at hl 5 rfl) ?_
    refine lv_iconst (v := (-1)) hx hb dX6_mention_39 (by decide +kernel) ?_
    refine lv_icmp_eq (tgt := 55) hx hb dX6_mention_40 (by decide) (fun c_40 => ?_) (fun c_40 => ?_)
    · exact zqJ55   _ _ _ hP hD hS (lv_sub hl [1, 2, 3, 4, 5, 0] rfl)
    · refine lv_iload hx hb dX6_mention_43 (lv_at hl 5 rfl) ?_
      refine q_callSI (As := [.int po]) (r := q_b (mB po 8)) hx hb hml hown hT hK hP hD hS hA (c_X6_isPost l D cA po) k_X6_isPost kl_X6_96 hl rfl rfl (Nat.le_of_ble_eq_true rfl) ⟨⟨rfl, rfl⟩, Nat.le_of_ble_eq_true rfl, Nat.le_of_ble_eq_true rfl⟩ ⟨Nat.zero_le _, Nat.zero_le _⟩ dX6_mention_45 (fun H locs hP hD hS => ?_)
      refine lv_if_ne (tgt := 55) hx hb dX6_mention_48 (by decide) (fun c_48 => ?_) (fun c_48 => ?_)
      · have c_48 := q_b0n c_48
        exact zqJ55   _ _ _ hP hD hS (lv_sub hl [1, 2, 3, 4, 5, 0] rfl)
      · have c_48 := q_b0e c_48
        exact absurd c_48 (mB_F (hpo.resolve_left c_40) (by omega))
  refine lv_iload_n hx hb dX6_mention_0 rfl (lv_at hl 1 rfl) ?_
  refine lv_iconst (v := nI 0) hx hb dX6_mention_1 (by decide +kernel) ?_
  refine lv_bipush (v := nI 9) hx hb dX6_mention_2 (by decide +kernel) ?_
  refine q_callSI (As := [.int nm, .int (nI 0), .int (nI 9)]) (r := q_b (iN nm (nI 0) (nI 9))) hx hb hml hown hT hK hP hD hS hA (c_X6_isIn l D cA nm (nI 0) (nI 9)) k_X6_isIn kl_X6_89 hl rfl rfl (Nat.le_of_ble_eq_true rfl) ⟨⟨rfl, rfl⟩, Nat.le_of_ble_eq_true rfl, Nat.le_of_ble_eq_true rfl⟩ ⟨Nat.zero_le _, Nat.zero_le _⟩ dX6_mention_4 (fun H locs hP hD hS => ?_)
  refine lv_if_eq (tgt := 33) hx hb dX6_mention_7 (by decide) (fun c_7 => ?_) (fun c_7 => ?_)
  · have c_7 := q_b0e c_7
    refine lv_iconst (v := nI 0) hx hb dX6_mention_33 (by decide +kernel) ?_
    refine q_top (y := q_b (iN nm (nI 0) (nI 9) && iN fm (-1) (nI 9) && iN pl (nI 0) (nI 5))) (by first | exact q_bt (by rw [c_7, c_17, c_26]; rfl) | exact q_bf (by rw [c_7]; rfl) | exact q_bf (by rw [c_7, c_17]; rfl) | exact q_bf (by rw [c_7, c_17, c_26]; rfl)) ?_
    exact zqJ34   _ _ _ hP hD hS (lv_sub hl [0, 1, 2, 3, 4] rfl)
  · have c_7 := q_b0n c_7
    refine lv_iload_n hx hb dX6_mention_10 rfl (lv_at hl 2 rfl) ?_
    refine lv_iconst (v := (-1)) hx hb dX6_mention_11 (by decide +kernel) ?_
    refine lv_bipush (v := nI 9) hx hb dX6_mention_12 (by decide +kernel) ?_
    refine q_callSI (As := [.int fm, .int (-1), .int (nI 9)]) (r := q_b (iN fm (-1) (nI 9))) hx hb hml hown hT hK hP hD hS hA (c_X6_isIn l D cA fm (-1) (nI 9)) k_X6_isIn kl_X6_89 hl rfl rfl (Nat.le_of_ble_eq_true rfl) ⟨⟨rfl, rfl⟩, Nat.le_of_ble_eq_true rfl, Nat.le_of_ble_eq_true rfl⟩ ⟨Nat.zero_le _, Nat.zero_le _⟩ dX6_mention_14 (fun H locs hP hD hS => ?_)
    refine lv_if_eq (tgt := 33) hx hb dX6_mention_17 (by decide) (fun c_17 => ?_) (fun c_17 => ?_)
    · have c_17 := q_b0e c_17
      refine lv_iconst (v := nI 0) hx hb dX6_mention_33 (by decide +kernel) ?_
      refine q_top (y := q_b (iN nm (nI 0) (nI 9) && iN fm (-1) (nI 9) && iN pl (nI 0) (nI 5))) (by first | exact q_bt (by rw [c_7, c_17, c_26]; rfl) | exact q_bf (by rw [c_7]; rfl) | exact q_bf (by rw [c_7, c_17]; rfl) | exact q_bf (by rw [c_7, c_17, c_26]; rfl)) ?_
      exact zqJ34   _ _ _ hP hD hS (lv_sub hl [0, 1, 2, 3, 4] rfl)
    · have c_17 := q_b0n c_17
      refine lv_iload_n hx hb dX6_mention_20 rfl (lv_at hl 3 rfl) ?_
      refine lv_iconst (v := nI 0) hx hb dX6_mention_21 (by decide +kernel) ?_
      refine lv_iconst (v := nI 5) hx hb dX6_mention_22 (by decide +kernel) ?_
      refine q_callSI (As := [.int pl, .int (nI 0), .int (nI 5)]) (r := q_b (iN pl (nI 0) (nI 5))) hx hb hml hown hT hK hP hD hS hA (c_X6_isIn l D cA pl (nI 0) (nI 5)) k_X6_isIn kl_X6_89 hl rfl rfl (Nat.le_of_ble_eq_true rfl) ⟨⟨rfl, rfl⟩, Nat.le_of_ble_eq_true rfl, Nat.le_of_ble_eq_true rfl⟩ ⟨Nat.zero_le _, Nat.zero_le _⟩ dX6_mention_23 (fun H locs hP hD hS => ?_)
      refine lv_if_eq (tgt := 33) hx hb dX6_mention_26 (by decide) (fun c_26 => ?_) (fun c_26 => ?_)
      · have c_26 := q_b0e c_26
        refine lv_iconst (v := nI 0) hx hb dX6_mention_33 (by decide +kernel) ?_
        refine q_top (y := q_b (iN nm (nI 0) (nI 9) && iN fm (-1) (nI 9) && iN pl (nI 0) (nI 5))) (by first | exact q_bt (by rw [c_7, c_17, c_26]; rfl) | exact q_bf (by rw [c_7]; rfl) | exact q_bf (by rw [c_7, c_17]; rfl) | exact q_bf (by rw [c_7, c_17, c_26]; rfl)) ?_
        exact zqJ34   _ _ _ hP hD hS (lv_sub hl [0, 1, 2, 3, 4] rfl)
      · have c_26 := q_b0n c_26
        refine lv_iconst (v := nI 1) hx hb dX6_mention_29 (by decide +kernel) ?_
        refine lv_goto (tgt := 34) hx hb dX6_mention_30 (by decide) ?_
        refine q_top (y := q_b (iN nm (nI 0) (nI 9) && iN fm (-1) (nI 9) && iN pl (nI 0) (nI 5))) (by first | exact q_bt (by rw [c_7, c_17, c_26]; rfl) | exact q_bf (by rw [c_7]; rfl) | exact q_bf (by rw [c_7, c_17]; rfl) | exact q_bf (by rw [c_7, c_17, c_26]; rfl)) ?_
        exact zqJ34   _ _ _ hP hD hS (lv_sub hl [0, 1, 2, 3, 4] rfl)
abbrev rm_X6_mentionx5 : Room := { frames := 2, cells := 0, slots := 0, locals := 42 }
set_option maxRecDepth 100000 in
set_option maxHeartbeats 4000000 in
theorem c_X6_mentionx5 (l : Launch) (D : va_G) (cA : ClassId) (ad : Nat → Nat) (g : Nat → Nat → Int32) (z : Nat → Nat) (nm : Int32) (fm : Int32) (pl : Int32) (po : Int32) (hpo : po = (-1) ∨ q_r po 8) (hnm : ¬ nm < nI 0 ∧ nm ≤ nI 9) (hfm : ¬ fm < (-1) ∧ fm ≤ nI 9) (hpl : ¬ pl < nI 0 ∧ pl ≤ nI 5) (hz16 : (z 0) = 16 ∨ (z 2) = 40) (hc : (z 0) ≤ 16) (hm9 : (z 2) ≤ 40) : q_CI l yX6_mention [Cond.code yX6_mention cX6_mention 6 (some .int)] rm_X6_mentionx5 D cA [.ref (ad 80), .int nm, .int fm, .int pl, .int po] (mdW cA ad g z) (nI 0) (mdW cA ad g (zs z 4 3)) := by
  refine q_startI RX6 (by decide +kernel) rfl (Nat.le_of_ble_eq_true rfl) ?_
  intro p e s m below meth c A args H locs ls hx hb hr hml hown hT hlk hP hK hD hA hS hl
  have hl : lv_has ls 6 [(0, .ref (ad 80)), (1, .int nm), (2, .int fm), (3, .int pl), (4, .int po)] := hl
  have zqJ55 : ∀ (H : Heap) (locs : List Loc) (ls : Array Slot), va_P D vwCl (mdW cA ad g z) H → va_D A (mdW cA ad g z) → va_S A s.heap H locs → lv_has ls 6 [(0, .ref (ad 80)), (1, .int nm), (2, .int fm), (3, .int pl), (4, .int po), (5, .int (q_b (iN nm (nI 0) (nI 9) && iN fm (-1) (nI 9) && iN pl (nI 0) (nI 5))))] → W p l e rm_X6_mentionx5 s m args below meth c H locs 0 0 (q_GI D (nI 0) (mdW cA ad g (zs z 4 3)) A below args s) (F0 m 55 ls [.ref (ad 80)]) := by
    intro   H locs ls hP hD hS hl
    refine lv_iload hx hb dX6_mention_55 (lv_at hl 5 rfl) ?_
    refine lv_if_ne (tgt := 64) hx hb dX6_mention_57 (by decide) (fun c_57 => ?_) (fun c_57 => ?_)
    · have c_57 := q_b0n c_57
      refine lv_aload_n hx hb dX6_mention_64 rfl (lv_at hl 0 rfl) ?_
      refine q_get hx hb hT hown hK hP kw_X6 0 rfl rfl 0 (by decide) kf_X6_86 rfl (v := .int (nI (z 0))) rfl dX6_mention_65 ?_
      refine lv_bipush (v := nI 16) hx hb dX6_mention_68 (by decide +kernel) ?_
      refine lv_icmp_eq (tgt := 82) hx hb dX6_mention_70 (by decide) (fun c_70 => ?_) (fun c_70 => ?_)
      · have c_70 := nI_eq1 (a := z 0) (b := 16) (by omega) (by omega) c_70
        refine lv_iconst (v := nI 3) hx hb dX6_mention_82 (by decide +kernel) ?_
        refine lv_goto (tgt := 87) hx hb dX6_mention_83 (by decide) ?_
        refine q_put (ty := .int) (ws1 := mdW cA ad g (zs z 4 3)) hx hb hT hown hK hP hD hS kw_X6 tyX6_ok nmX6 0 rfl rfl 27 (by decide) kf_X6_82 rfl rfl (by decide +kernel) rfl rfl (Nat.le_of_ble_eq_true rfl) rfl dX6_mention_87 (fun H locs hP hD hS => ?_)
        refine lv_aload_n hx hb dX6_mention_90 rfl (lv_at hl 0 rfl) ?_
        refine q_get hx hb hT hown hK hP kw_X6 0 rfl rfl 27 (by decide) kf_X6_82 rfl (v := .int (nI 3)) rfl dX6_mention_91 ?_
        refine lv_if_le (tgt := 99) hx hb dX6_mention_94 (by decide) (fun c_94 => ?_) (fun c_94 => ?_)
        · have c_94 := nI_le1 (a := 3) (b := 0) (by omega) (by omega) c_94
          exfalso; omega
        · have c_94 := nI_le0 (a := 3) (b := 0) (by omega) (by omega) c_94
          refine lv_iconst (v := nI 0) hx hb dX6_mention_97 (by decide +kernel) ?_
          exact q_iret hx hb hr hlk (by rfl) hP hS dX6_mention_98
      · have c_70 := nI_eq0 (a := z 0) (b := 16) (by omega) (by omega) c_70
        refine lv_aload_n hx hb dX6_mention_73 rfl (lv_at hl 0 rfl) ?_
        refine q_get hx hb hT hown hK hP kw_X6 0 rfl rfl 21 (by decide) kf_X6_93 rfl (v := .int (nI (z 2))) rfl dX6_mention_74 ?_
        refine lv_bipush (v := nI 40) hx hb dX6_mention_77 (by decide +kernel) ?_
        refine lv_icmp_ne (tgt := 86) hx hb dX6_mention_79 (by decide) (fun c_79 => ?_) (fun c_79 => ?_)
        · have c_79 := nI_eq0 (a := z 2) (b := 40) (by omega) (by omega) c_79
          exfalso; omega
        · have c_79 := nI_eq1 (a := z 2) (b := 40) (by omega) (by omega) c_79
          refine lv_iconst (v := nI 3) hx hb dX6_mention_82 (by decide +kernel) ?_
          refine lv_goto (tgt := 87) hx hb dX6_mention_83 (by decide) ?_
          refine q_put (ty := .int) (ws1 := mdW cA ad g (zs z 4 3)) hx hb hT hown hK hP hD hS kw_X6 tyX6_ok nmX6 0 rfl rfl 27 (by decide) kf_X6_82 rfl rfl (by decide +kernel) rfl rfl (Nat.le_of_ble_eq_true rfl) rfl dX6_mention_87 (fun H locs hP hD hS => ?_)
          refine lv_aload_n hx hb dX6_mention_90 rfl (lv_at hl 0 rfl) ?_
          refine q_get hx hb hT hown hK hP kw_X6 0 rfl rfl 27 (by decide) kf_X6_82 rfl (v := .int (nI 3)) rfl dX6_mention_91 ?_
          refine lv_if_le (tgt := 99) hx hb dX6_mention_94 (by decide) (fun c_94 => ?_) (fun c_94 => ?_)
          · have c_94 := nI_le1 (a := 3) (b := 0) (by omega) (by omega) c_94
            exfalso; omega
          · have c_94 := nI_le0 (a := 3) (b := 0) (by omega) (by omega) c_94
            refine lv_iconst (v := nI 0) hx hb dX6_mention_97 (by decide +kernel) ?_
            exact q_iret hx hb hr hlk (by rfl) hP hS dX6_mention_98
    · have c_57 := q_b0e c_57
      exact absurd c_57 (by rw [iN_t hnm, iN_t hfm, iN_t hpl]; decide)
  have zqJ34 : ∀ (H : Heap) (locs : List Loc) (ls : Array Slot), va_P D vwCl (mdW cA ad g z) H → va_D A (mdW cA ad g z) → va_S A s.heap H locs → lv_has ls 6 [(0, .ref (ad 80)), (1, .int nm), (2, .int fm), (3, .int pl), (4, .int po)] → W p l e rm_X6_mentionx5 s m args below meth c H locs 0 0 (q_GI D (nI 0) (mdW cA ad g (zs z 4 3)) A below args s) (F0 m 34 ls [.int (q_b (iN nm (nI 0) (nI 9) && iN fm (-1) (nI 9) && iN pl (nI 0) (nI 5)))]) := by
    intro   H locs ls hP hD hS hl
    refine lv_istore (lv' := [(5, .int (q_b (iN nm (nI 0) (nI 9) && iN fm (-1) (nI 9) && iN pl (nI 0) (nI 5)))), (0, .ref (ad 80)), (1, .int nm), (2, .int fm), (3, .int pl), (4, .int po)]) hx hb dX6_mention_34 hl (by decide) rfl (fun ls hl => ?_)
    refine lv_aload_n hx hb dX6_mention_36 rfl (lv_at hl 1 rfl) ?_
    refine lv_iload hx hb dX6_mention_37 (lv_at hl 5 rfl) ?_
    refine lv_iconst (v := (-1)) hx hb dX6_mention_39 (by decide +kernel) ?_
    refine lv_icmp_eq (tgt := 55) hx hb dX6_mention_40 (by decide) (fun c_40 => ?_) (fun c_40 => ?_)
    · exact zqJ55   _ _ _ hP hD hS (lv_sub hl [1, 2, 3, 4, 5, 0] rfl)
    · refine lv_iload hx hb dX6_mention_43 (lv_at hl 5 rfl) ?_
      refine q_callSI (As := [.int po]) (r := q_b (mB po 8)) hx hb hml hown hT hK hP hD hS hA (c_X6_isPost l D cA po) k_X6_isPost kl_X6_96 hl rfl rfl (Nat.le_of_ble_eq_true rfl) ⟨⟨rfl, rfl⟩, Nat.le_of_ble_eq_true rfl, Nat.le_of_ble_eq_true rfl⟩ ⟨Nat.zero_le _, Nat.zero_le _⟩ dX6_mention_45 (fun H locs hP hD hS => ?_)
      refine lv_if_ne (tgt := 55) hx hb dX6_mention_48 (by decide) (fun c_48 => ?_) (fun c_48 => ?_)
      · have c_48 := q_b0n c_48
        exact zqJ55   _ _ _ hP hD hS (lv_sub hl [1, 2, 3, 4, 5, 0] rfl)
      · have c_48 := q_b0e c_48
        exact absurd c_48 (mB_F (hpo.resolve_left c_40) (by omega))
  refine lv_iload_n hx hb dX6_mention_0 rfl (lv_at hl 1 rfl) ?_
  refine lv_iconst (v := nI 0) hx hb dX6_mention_1 (by decide +kernel) ?_
  refine lv_bipush (v := nI 9) hx hb dX6_mention_2 (by decide +kernel) ?_
  refine q_callSI (As := [.int nm, .int (nI 0), .int (nI 9)]) (r := q_b (iN nm (nI 0) (nI 9))) hx hb hml hown hT hK hP hD hS hA (c_X6_isIn l D cA nm (nI 0) (nI 9)) k_X6_isIn kl_X6_89 hl rfl rfl (Nat.le_of_ble_eq_true rfl) ⟨⟨rfl, rfl⟩, Nat.le_of_ble_eq_true rfl, Nat.le_of_ble_eq_true rfl⟩ ⟨Nat.zero_le _, Nat.zero_le _⟩ dX6_mention_4 (fun H locs hP hD hS => ?_)
  refine lv_if_eq (tgt := 33) hx hb dX6_mention_7 (by decide) (fun c_7 => ?_) (fun c_7 => ?_)
  · have c_7 := q_b0e c_7
    refine lv_iconst (v := nI 0) hx hb dX6_mention_33 (by decide +kernel) ?_
    refine q_top (y := q_b (iN nm (nI 0) (nI 9) && iN fm (-1) (nI 9) && iN pl (nI 0) (nI 5))) (by first | exact q_bt (by rw [c_7, c_17, c_26]; rfl) | exact q_bf (by rw [c_7]; rfl) | exact q_bf (by rw [c_7, c_17]; rfl) | exact q_bf (by rw [c_7, c_17, c_26]; rfl)) ?_
    exact zqJ34   _ _ _ hP hD hS (lv_sub hl [0, 1, 2, 3, 4] rfl)
  · have c_7 := q_b0n c_7
    refine lv_iload_n hx hb dX6_mention_10 rfl (lv_at hl 2 rfl) ?_
    refine lv_iconst (v := (-1)) hx hb dX6_mention_11 (by decide +kernel) ?_
    refine lv_bipush (v := nI 9) hx hb dX6_mention_12 (by decide +kernel) ?_
    refine q_callSI (As := [.int fm, .int (-1), .int (nI 9)]) (r := q_b (iN fm (-1) (nI 9))) hx hb hml hown hT hK hP hD hS hA (c_X6_isIn l D cA fm (-1) (nI 9)) k_X6_isIn kl_X6_89 hl rfl rfl (Nat.le_of_ble_eq_true rfl) ⟨⟨rfl, rfl⟩, Nat.le_of_ble_eq_true rfl, Nat.le_of_ble_eq_true rfl⟩ ⟨Nat.zero_le _, Nat.zero_le _⟩ dX6_mention_14 (fun H locs hP hD hS => ?_)
    refine lv_if_eq (tgt := 33) hx hb dX6_mention_17 (by decide) (fun c_17 => ?_) (fun c_17 => ?_)
    · have c_17 := q_b0e c_17
      refine lv_iconst (v := nI 0) hx hb dX6_mention_33 (by decide +kernel) ?_
      refine q_top (y := q_b (iN nm (nI 0) (nI 9) && iN fm (-1) (nI 9) && iN pl (nI 0) (nI 5))) (by first | exact q_bt (by rw [c_7, c_17, c_26]; rfl) | exact q_bf (by rw [c_7]; rfl) | exact q_bf (by rw [c_7, c_17]; rfl) | exact q_bf (by rw [c_7, c_17, c_26]; rfl)) ?_
      exact zqJ34   _ _ _ hP hD hS (lv_sub hl [0, 1, 2, 3, 4] rfl)
    · have c_17 := q_b0n c_17
      refine lv_iload_n hx hb dX6_mention_20 rfl (lv_at hl 3 rfl) ?_
      refine lv_iconst (v := nI 0) hx hb dX6_mention_21 (by decide +kernel) ?_
      refine lv_iconst (v := nI 5) hx hb dX6_mention_22 (by decide +kernel) ?_
      refine q_callSI (As := [.int pl, .int (nI 0), .int (nI 5)]) (r := q_b (iN pl (nI 0) (nI 5))) hx hb hml hown hT hK hP hD hS hA (c_X6_isIn l D cA pl (nI 0) (nI 5)) k_X6_isIn kl_X6_89 hl rfl rfl (Nat.le_of_ble_eq_true rfl) ⟨⟨rfl, rfl⟩, Nat.le_of_ble_eq_true rfl, Nat.le_of_ble_eq_true rfl⟩ ⟨Nat.zero_le _, Nat.zero_le _⟩ dX6_mention_23 (fun H locs hP hD hS => ?_)
      refine lv_if_eq (tgt := 33) hx hb dX6_mention_26 (by decide) (fun c_26 => ?_) (fun c_26 => ?_)
      · have c_26 := q_b0e c_26
        refine lv_iconst (v := nI 0) hx hb dX6_mention_33 (by decide +kernel) ?_
        refine q_top (y := q_b (iN nm (nI 0) (nI 9) && iN fm (-1) (nI 9) && iN pl (nI 0) (nI 5))) (by first | exact q_bt (by rw [c_7, c_17, c_26]; rfl) | exact q_bf (by rw [c_7]; rfl) | exact q_bf (by rw [c_7, c_17]; rfl) | exact q_bf (by rw [c_7, c_17, c_26]; rfl)) ?_
        exact zqJ34   _ _ _ hP hD hS (lv_sub hl [0, 1, 2, 3, 4] rfl)
      · have c_26 := q_b0n c_26
        refine lv_iconst (v := nI 1) hx hb dX6_mention_29 (by decide +kernel) ?_
        refine lv_goto (tgt := 34) hx hb dX6_mention_30 (by decide) ?_
        refine q_top (y := q_b (iN nm (nI 0) (nI 9) && iN fm (-1) (nI 9) && iN pl (nI 0) (nI 5))) (by first | exact q_bt (by rw [c_7, c_17, c_26]; rfl) | exact q_bf (by rw [c_7]; rfl) | exact q_bf (by rw [c_7, c_17]; rfl) | exact q_bf (by rw [c_7, c_17, c_26]; rfl)) ?_
        exact zqJ34   _ _ _ hP hD hS (lv_sub hl [0, 1, 2, 3, 4] rfl)
abbrev rm_X6_rank : Room := { frames := 2, cells := 0, slots := 0, locals := 42 }
set_option maxRecDepth 100000 in
set_option maxHeartbeats 4000000 in
theorem c_X6_rank (l : Launch) (D : va_G) (cA : ClassId) (ad : Nat → Nat) (g : Nat → Nat → Int32) (z : Nat → Nat) (i : Nat) (rk : Int32) (hi : i < 8) (hrk : ¬ rk < nI 0 ∧ rk ≤ nI 9) : q_CI l yX6_rank [Cond.code yX6_rank cX6_rank 4 (some .int)] rm_X6_rank D cA [.ref (ad 80), .int (nI i), .int rk] (mdW cA ad g z) ((g 5) i) (mdW cA ad (gs g 5 (upd (g 5) i rk)) (zs z 4 0)) := by
  refine q_startI RX6 (by decide +kernel) rfl (Nat.le_of_ble_eq_true rfl) ?_
  intro p e s m below meth c A args H locs ls hx hb hr hml hown hT hlk hP hK hD hA hS hl
  have hl : lv_has ls 4 [(0, .ref (ad 80)), (1, .int (nI i)), (2, .int rk)] := hl
  refine lv_aload_n hx hb dX6_rank_0 rfl (lv_at hl 0 rfl) ?_
  refine lv_iload_n hx hb dX6_rank_1 rfl (lv_at hl 1 rfl) ?_
  refine q_callSI (As := [.int (nI i)]) (r := q_b (mB (nI i) 8)) hx hb hml hown hT hK hP hD hS hA (c_X6_isPost l D cA (nI i)) k_X6_isPost kl_X6_96 hl rfl rfl (Nat.le_of_ble_eq_true rfl) ⟨⟨rfl, rfl⟩, Nat.le_of_ble_eq_true rfl, Nat.le_of_ble_eq_true rfl⟩ ⟨Nat.zero_le _, Nat.zero_le _⟩ dX6_rank_2 (fun H locs hP hD hS => ?_)
  refine lv_if_ne (tgt := 12) hx hb dX6_rank_5 (by decide) (fun c_5 => ?_) (fun c_5 => ?_)
  · have c_5 := q_b0n c_5
    refine lv_iload_n hx hb dX6_rank_12 rfl (lv_at hl 2 rfl) ?_
    refine lv_iconst (v := nI 0) hx hb dX6_rank_13 (by decide +kernel) ?_
    refine lv_bipush (v := nI 9) hx hb dX6_rank_14 (by decide +kernel) ?_
    refine q_callSI (As := [.int rk, .int (nI 0), .int (nI 9)]) (r := q_b (iN rk (nI 0) (nI 9))) hx hb hml hown hT hK hP hD hS hA (c_X6_isIn l D cA rk (nI 0) (nI 9)) k_X6_isIn kl_X6_89 hl rfl rfl (Nat.le_of_ble_eq_true rfl) ⟨⟨rfl, rfl⟩, Nat.le_of_ble_eq_true rfl, Nat.le_of_ble_eq_true rfl⟩ ⟨Nat.zero_le _, Nat.zero_le _⟩ dX6_rank_16 (fun H locs hP hD hS => ?_)
    refine lv_if_ne (tgt := 26) hx hb dX6_rank_19 (by decide) (fun c_19 => ?_) (fun c_19 => ?_)
    · have c_19 := q_b0n c_19
      refine lv_iconst (v := nI 0) hx hb dX6_rank_26 (by decide +kernel) ?_
      refine q_put (ty := .int) (ws1 := mdW cA ad g (zs z 4 0)) hx hb hT hown hK hP hD hS kw_X6 tyX6_ok nmX6 0 rfl rfl 27 (by decide) kf_X6_82 rfl rfl (by decide +kernel) rfl rfl (Nat.le_of_ble_eq_true rfl) rfl dX6_rank_27 (fun H locs hP hD hS => ?_)
      refine lv_aload_n hx hb dX6_rank_30 rfl (lv_at hl 0 rfl) ?_
      refine q_get hx hb hT hown hK hP kw_X6 0 rfl rfl 27 (by decide) kf_X6_82 rfl (v := .int (nI 0)) rfl dX6_rank_31 ?_
      refine lv_if_le (tgt := 39) hx hb dX6_rank_34 (by decide) (fun c_34 => ?_) (fun c_34 => ?_)
      · have c_34 := nI_le1 (a := 0) (b := 0) (by omega) (by omega) c_34
        refine lv_aload_n hx hb dX6_rank_39 rfl (lv_at hl 0 rfl) ?_
        refine q_get hx hb hT hown hK hP kw_X6 0 rfl rfl 5 (by decide) kf_X6_22 rfl (v := .ref (ad 5)) rfl dX6_rank_40 ?_
        refine lv_iload_n hx hb dX6_rank_43 rfl (lv_at hl 1 rfl) ?_
        refine q_iald (f := g 5) hx hb hK hP 5 0 rfl rfl (i) rfl (by omega) (by omega) dX6_rank_44 ?_
        refine lv_istore_n (lv' := [(3, .int (g 5 i)), (0, .ref (ad 80)), (1, .int (nI i)), (2, .int rk)]) hx hb dX6_rank_45 rfl hl (by decide) rfl (fun ls hl => ?_)
        refine lv_aload_n hx hb dX6_rank_46 rfl (lv_at hl 1 rfl) ?_
        refine q_get hx hb hT hown hK hP kw_X6 0 rfl rfl 5 (by decide) kf_X6_22 rfl (v := .ref (ad 5)) rfl dX6_rank_47 ?_
        refine lv_iload_n hx hb dX6_rank_50 rfl (lv_at hl 2 rfl) ?_
        refine lv_iload_n hx hb dX6_rank_51 rfl (lv_at hl 3 rfl) ?_
        refine q_iast (f := g 5) (ws1 := mdW cA ad (gs g 5 (upd (g 5) i rk)) (zs z 4 0)) hx hb hK hP hD hS 5 0 rfl rfl (i) rfl (by omega) (by omega) rfl dX6_rank_52 (fun H locs hP hD hS => ?_)
        obtain ⟨nF52_5, enF52_5⟩ : ∃ y : Nat → Int32, y = upd (g 5) i rk := ⟨_, rfl⟩
        have hP : va_P D vwCl (mdW cA ad (gs g 5 nF52_5) (zs z 4 0)) H := by rw [enF52_5]; exact hP
        have hD : va_D A (mdW cA ad (gs g 5 nF52_5) (zs z 4 0)) := by rw [enF52_5]; exact hD
        refine lv_iload_n hx hb dX6_rank_53 rfl (lv_at hl 0 rfl) ?_
        rw [enF52_5] at hP hD
        exact q_iret hx hb hr hlk (by rfl) hP hS dX6_rank_54
      · have c_34 := nI_le0 (a := 0) (b := 0) (by omega) (by omega) c_34
        exfalso; omega
    · have c_19 := q_b0e c_19
      exact absurd c_19 (by rw [iN_t hrk]; decide)
  · have c_5 := q_b0e c_5
    exact absurd c_5 (mB_F (q_r_nI (by omega)) (by omega))
abbrev rm_X6_rankx : Room := { frames := 2, cells := 0, slots := 0, locals := 42 }
set_option maxRecDepth 100000 in
set_option maxHeartbeats 4000000 in
theorem c_X6_rankx (l : Launch) (D : va_G) (cA : ClassId) (ad : Nat → Nat) (g : Nat → Nat → Int32) (z : Nat → Nat) (w : Int32) (rk : Int32) (hw : ¬ q_r w 8) : q_CI l yX6_rank [Cond.code yX6_rank cX6_rank 4 (some .int)] rm_X6_rankx D cA [.ref (ad 80), .int w, .int rk] (mdW cA ad g z) (nI 0) (mdW cA ad g (zs z 4 1)) := by
  refine q_startI RX6 (by decide +kernel) rfl (Nat.le_of_ble_eq_true rfl) ?_
  intro p e s m below meth c A args H locs ls hx hb hr hml hown hT hlk hP hK hD hA hS hl
  have hl : lv_has ls 4 [(0, .ref (ad 80)), (1, .int w), (2, .int rk)] := hl
  refine lv_aload_n hx hb dX6_rank_0 rfl (lv_at hl 0 rfl) ?_
  refine lv_iload_n hx hb dX6_rank_1 rfl (lv_at hl 1 rfl) ?_
  refine q_callSI (As := [.int w]) (r := q_b (mB w 8)) hx hb hml hown hT hK hP hD hS hA (c_X6_isPost l D cA w) k_X6_isPost kl_X6_96 hl rfl rfl (Nat.le_of_ble_eq_true rfl) ⟨⟨rfl, rfl⟩, Nat.le_of_ble_eq_true rfl, Nat.le_of_ble_eq_true rfl⟩ ⟨Nat.zero_le _, Nat.zero_le _⟩ dX6_rank_2 (fun H locs hP hD hS => ?_)
  refine lv_if_ne (tgt := 12) hx hb dX6_rank_5 (by decide) (fun c_5 => ?_) (fun c_5 => ?_)
  · have c_5 := q_b0n c_5
    exact absurd c_5 (mB_T hw (by omega))
  · have c_5 := q_b0e c_5
    refine lv_iconst (v := nI 1) hx hb dX6_rank_8 (by decide +kernel) ?_
    refine lv_goto (tgt := 27) hx hb dX6_rank_9 (by decide) ?_
    refine q_put (ty := .int) (ws1 := mdW cA ad g (zs z 4 1)) hx hb hT hown hK hP hD hS kw_X6 tyX6_ok nmX6 0 rfl rfl 27 (by decide) kf_X6_82 rfl rfl (by decide +kernel) rfl rfl (Nat.le_of_ble_eq_true rfl) rfl dX6_rank_27 (fun H locs hP hD hS => ?_)
    refine lv_aload_n hx hb dX6_rank_30 rfl (lv_at hl 0 rfl) ?_
    refine q_get hx hb hT hown hK hP kw_X6 0 rfl rfl 27 (by decide) kf_X6_82 rfl (v := .int (nI 1)) rfl dX6_rank_31 ?_
    refine lv_if_le (tgt := 39) hx hb dX6_rank_34 (by decide) (fun c_34 => ?_) (fun c_34 => ?_)
    · have c_34 := nI_le1 (a := 1) (b := 0) (by omega) (by omega) c_34
      exfalso; omega
    · have c_34 := nI_le0 (a := 1) (b := 0) (by omega) (by omega) c_34
      refine lv_iconst (v := nI 0) hx hb dX6_rank_37 (by decide +kernel) ?_
      exact q_iret hx hb hr hlk (by rfl) hP hS dX6_rank_38
abbrev rm_X6_rankx2 : Room := { frames := 2, cells := 0, slots := 0, locals := 42 }
set_option maxRecDepth 100000 in
set_option maxHeartbeats 4000000 in
theorem c_X6_rankx2 (l : Launch) (D : va_G) (cA : ClassId) (ad : Nat → Nat) (g : Nat → Nat → Int32) (z : Nat → Nat) (w : Int32) (rk : Int32) (hw : q_r w 8) (hrk : ¬ (¬ rk < nI 0 ∧ rk ≤ nI 9)) : q_CI l yX6_rank [Cond.code yX6_rank cX6_rank 4 (some .int)] rm_X6_rankx2 D cA [.ref (ad 80), .int w, .int rk] (mdW cA ad g z) (nI 0) (mdW cA ad g (zs z 4 2)) := by
  refine q_startI RX6 (by decide +kernel) rfl (Nat.le_of_ble_eq_true rfl) ?_
  intro p e s m below meth c A args H locs ls hx hb hr hml hown hT hlk hP hK hD hA hS hl
  have hl : lv_has ls 4 [(0, .ref (ad 80)), (1, .int w), (2, .int rk)] := hl
  refine lv_aload_n hx hb dX6_rank_0 rfl (lv_at hl 0 rfl) ?_
  refine lv_iload_n hx hb dX6_rank_1 rfl (lv_at hl 1 rfl) ?_
  refine q_callSI (As := [.int w]) (r := q_b (mB w 8)) hx hb hml hown hT hK hP hD hS hA (c_X6_isPost l D cA w) k_X6_isPost kl_X6_96 hl rfl rfl (Nat.le_of_ble_eq_true rfl) ⟨⟨rfl, rfl⟩, Nat.le_of_ble_eq_true rfl, Nat.le_of_ble_eq_true rfl⟩ ⟨Nat.zero_le _, Nat.zero_le _⟩ dX6_rank_2 (fun H locs hP hD hS => ?_)
  refine lv_if_ne (tgt := 12) hx hb dX6_rank_5 (by decide) (fun c_5 => ?_) (fun c_5 => ?_)
  · have c_5 := q_b0n c_5
    refine lv_iload_n hx hb dX6_rank_12 rfl (lv_at hl 2 rfl) ?_
    refine lv_iconst (v := nI 0) hx hb dX6_rank_13 (by decide +kernel) ?_
    refine lv_bipush (v := nI 9) hx hb dX6_rank_14 (by decide +kernel) ?_
    refine q_callSI (As := [.int rk, .int (nI 0), .int (nI 9)]) (r := q_b (iN rk (nI 0) (nI 9))) hx hb hml hown hT hK hP hD hS hA (c_X6_isIn l D cA rk (nI 0) (nI 9)) k_X6_isIn kl_X6_89 hl rfl rfl (Nat.le_of_ble_eq_true rfl) ⟨⟨rfl, rfl⟩, Nat.le_of_ble_eq_true rfl, Nat.le_of_ble_eq_true rfl⟩ ⟨Nat.zero_le _, Nat.zero_le _⟩ dX6_rank_16 (fun H locs hP hD hS => ?_)
    refine lv_if_ne (tgt := 26) hx hb dX6_rank_19 (by decide) (fun c_19 => ?_) (fun c_19 => ?_)
    · have c_19 := q_b0n c_19
      exact absurd (iN_e c_19) hrk
    · have c_19 := q_b0e c_19
      refine lv_iconst (v := nI 2) hx hb dX6_rank_22 (by decide +kernel) ?_
      refine lv_goto (tgt := 27) hx hb dX6_rank_23 (by decide) ?_
      refine q_put (ty := .int) (ws1 := mdW cA ad g (zs z 4 2)) hx hb hT hown hK hP hD hS kw_X6 tyX6_ok nmX6 0 rfl rfl 27 (by decide) kf_X6_82 rfl rfl (by decide +kernel) rfl rfl (Nat.le_of_ble_eq_true rfl) rfl dX6_rank_27 (fun H locs hP hD hS => ?_)
      refine lv_aload_n hx hb dX6_rank_30 rfl (lv_at hl 0 rfl) ?_
      refine q_get hx hb hT hown hK hP kw_X6 0 rfl rfl 27 (by decide) kf_X6_82 rfl (v := .int (nI 2)) rfl dX6_rank_31 ?_
      refine lv_if_le (tgt := 39) hx hb dX6_rank_34 (by decide) (fun c_34 => ?_) (fun c_34 => ?_)
      · have c_34 := nI_le1 (a := 2) (b := 0) (by omega) (by omega) c_34
        exfalso; omega
      · have c_34 := nI_le0 (a := 2) (b := 0) (by omega) (by omega) c_34
        refine lv_iconst (v := nI 0) hx hb dX6_rank_37 (by decide +kernel) ?_
        exact q_iret hx hb hr hlk (by rfl) hP hS dX6_rank_38
  · have c_5 := q_b0e c_5
    exact absurd c_5 (mB_F hw (by omega))
abbrev rm_X6_bar : Room := { frames := 2, cells := 0, slots := 0, locals := 42 }
set_option maxRecDepth 100000 in
set_option maxHeartbeats 4000000 in
theorem c_X6_bar (l : Launch) (D : va_G) (cA : ClassId) (ad : Nat → Nat) (g : Nat → Nat → Int32) (z : Nat → Nat) (i : Nat) (j : Nat) (is : Bool) (hi : i < 8) (hj : j < 8) (hne : ¬ i = j) : q_CI l yX6_bar [Cond.code yX6_bar cX6_bar 5 (some .boolean)] rm_X6_bar D cA [.ref (ad 80), .int (nI i), .int (nI j), .int (q_b is)] (mdW cA ad g z) (q_b (hasB ((g 8) i) (nI j))) (mdW cA ad (gs g 8 (tellF is (g 8) i j)) (zs z 4 0)) := by
  refine q_startI RX6 (by decide +kernel) rfl (Nat.le_of_ble_eq_true rfl) ?_
  intro p e s m below meth c A args H locs ls hx hb hr hml hown hT hlk hP hK hD hA hS hl
  have hl : lv_has ls 5 [(0, .ref (ad 80)), (1, .int (nI i)), (2, .int (nI j)), (3, .int (q_b is))] := hl
  have zqJ122 : ∀ (H : Heap) (locs : List Loc) (ls : Array Slot), va_P D vwCl (mdW cA ad (gs g 8 (upd (g 8) i (bitS is ((g 8) i) (nI j)))) (zs z 4 0)) H → va_D A (mdW cA ad (gs g 8 (upd (g 8) i (bitS is ((g 8) i) (nI j)))) (zs z 4 0)) → va_S A s.heap H locs → lv_has ls 5 [(0, .ref (ad 80)), (1, .int (nI i)), (2, .int (nI j)), (3, .int (q_b is)), (4, .int (q_b (hasB ((g 8) i) (nI j))))] → W p l e rm_X6_bar s m args below meth c H locs 0 0 (q_GI D (q_b (hasB ((g 8) i) (nI j))) (mdW cA ad (gs g 8 (tellF is (g 8) i j)) (zs z 4 0)) A below args s) (F0 m 122 ls [.int (bitS is (upd (g 8) i (bitS is ((g 8) i) (nI j)) j) (nI i)), .int (nI j), .ref (ad 8)]) := by
    intro   H locs ls hP hD hS hl
    refine q_iast (f := upd (g 8) i (bitS is ((g 8) i) (nI j))) (ws1 := mdW cA ad (gs g 8 (upd (upd (g 8) i (bitS is ((g 8) i) (nI j))) j (bitS is (upd (g 8) i (bitS is ((g 8) i) (nI j)) j) (nI i)))) (zs z 4 0)) hx hb hK hP hD hS 6 0 rfl rfl (j) rfl (by omega) (by omega) rfl dX6_bar_122 (fun H locs hP hD hS => ?_)
    obtain ⟨nF122_8, enF122_8⟩ : ∃ y : Nat → Int32, y = upd (upd (g 8) i (bitS is ((g 8) i) (nI j))) j (bitS is (upd (g 8) i (bitS is ((g 8) i) (nI j)) j) (nI i)) := ⟨_, rfl⟩
    have hP : va_P D vwCl (mdW cA ad (gs g 8 nF122_8) (zs z 4 0)) H := by rw [enF122_8]; exact hP
    have hD : va_D A (mdW cA ad (gs g 8 nF122_8) (zs z 4 0)) := by rw [enF122_8]; exact hD
    refine lv_iload hx hb dX6_bar_123 (lv_at hl 4 rfl) ?_
    rw [enF122_8] at hP hD
    exact q_zret hx hb hr hlk (q_b_or _) (by rfl) (va_cast' hP (by rfl)) hS dX6_bar_125
  have zqJ87 : ∀ (H : Heap) (locs : List Loc) (ls : Array Slot), va_P D vwCl (mdW cA ad g (zs z 4 0)) H → va_D A (mdW cA ad g (zs z 4 0)) → va_S A s.heap H locs → lv_has ls 5 [(0, .ref (ad 80)), (1, .int (nI i)), (2, .int (nI j)), (3, .int (q_b is)), (4, .int (q_b (hasB ((g 8) i) (nI j))))] → W p l e rm_X6_bar s m args below meth c H locs 0 0 (q_GI D (q_b (hasB ((g 8) i) (nI j))) (mdW cA ad (gs g 8 (tellF is (g 8) i j)) (zs z 4 0)) A below args s) (F0 m 87 ls [.int (bitS is ((g 8) i) (nI j)), .int (nI i), .ref (ad 8)]) := by
    intro   H locs ls hP hD hS hl
    refine q_iast (f := g 8) (ws1 := mdW cA ad (gs g 8 (upd (g 8) i (bitS is ((g 8) i) (nI j)))) (zs z 4 0)) hx hb hK hP hD hS 6 0 rfl rfl (i) rfl (by omega) (by omega) rfl dX6_bar_87 (fun H locs hP hD hS => ?_)
    obtain ⟨nF87_8, enF87_8⟩ : ∃ y : Nat → Int32, y = upd (g 8) i (bitS is ((g 8) i) (nI j)) := ⟨_, rfl⟩
    have hP : va_P D vwCl (mdW cA ad (gs g 8 nF87_8) (zs z 4 0)) H := by rw [enF87_8]; exact hP
    have hD : va_D A (mdW cA ad (gs g 8 nF87_8) (zs z 4 0)) := by rw [enF87_8]; exact hD
    refine lv_aload_n hx hb dX6_bar_88 rfl (lv_at hl 0 rfl) ?_
    refine q_get hx hb hT hown hK hP kw_X6 0 rfl rfl 6 (by decide) kf_X6_25 rfl (v := .ref (ad 8)) rfl dX6_bar_89 ?_
    refine lv_iload_n hx hb dX6_bar_92 rfl (lv_at hl 2 rfl) ?_
    refine lv_iload_n hx hb dX6_bar_93 rfl (lv_at hl 3 rfl) ?_
    refine lv_if_eq (tgt := 110) hx hb dX6_bar_94 (by decide) (fun c_94 => ?_) (fun c_94 => ?_)
    · have c_94 := q_b0e c_94
      refine lv_aload_n hx hb dX6_bar_110 rfl (lv_at hl 0 rfl) ?_
      refine q_get hx hb hT hown hK hP kw_X6 0 rfl rfl 6 (by decide) kf_X6_25 rfl (v := .ref (ad 8)) rfl dX6_bar_111 ?_
      refine lv_iload_n hx hb dX6_bar_114 rfl (lv_at hl 2 rfl) ?_
      refine q_iald (f := nF87_8) hx hb hK hP 6 0 rfl rfl (j) rfl (by omega) (by omega) dX6_bar_115 ?_
      refine lv_iconst (v := nI 1) hx hb dX6_bar_116 (by decide +kernel) ?_
      refine lv_iload_n hx hb dX6_bar_117 rfl (lv_at hl 1 rfl) ?_
      refine lv_ishl hx hb dX6_bar_118 ?_
      refine lv_iconst (v := (-1)) hx hb dX6_bar_119 (by decide +kernel) ?_
      refine lv_ixor hx hb dX6_bar_120 ?_
      refine lv_iand hx hb dX6_bar_121 ?_
      rw [enF87_8] at hP hD
      rw [enF87_8]
      refine q_top (y := bitS is (upd (g 8) i (bitS is ((g 8) i) (nI j)) j) (nI i)) (by rw [c_94]; rfl) ?_
      exact zqJ122   _ _ _ hP hD hS (lv_sub hl [0, 1, 2, 3, 4] rfl)
    · have c_94 := q_b0n c_94
      refine lv_aload_n hx hb dX6_bar_97 rfl (lv_at hl 0 rfl) ?_
      refine q_get hx hb hT hown hK hP kw_X6 0 rfl rfl 6 (by decide) kf_X6_25 rfl (v := .ref (ad 8)) rfl dX6_bar_98 ?_
      refine lv_iload_n hx hb dX6_bar_101 rfl (lv_at hl 2 rfl) ?_
      refine q_iald (f := nF87_8) hx hb hK hP 6 0 rfl rfl (j) rfl (by omega) (by omega) dX6_bar_102 ?_
      refine lv_iconst (v := nI 1) hx hb dX6_bar_103 (by decide +kernel) ?_
      refine lv_iload_n hx hb dX6_bar_104 rfl (lv_at hl 1 rfl) ?_
      refine lv_ishl hx hb dX6_bar_105 ?_
      refine lv_ior hx hb dX6_bar_106 ?_
      refine lv_goto (tgt := 122) hx hb dX6_bar_107 (by decide) ?_
      rw [enF87_8] at hP hD
      rw [enF87_8]
      refine q_top (y := bitS is (upd (g 8) i (bitS is ((g 8) i) (nI j)) j) (nI i)) (by rw [c_94]; rfl) ?_
      exact zqJ122   _ _ _ hP hD hS (lv_sub hl [0, 1, 2, 3, 4] rfl)
  refine lv_aload_n hx hb dX6_bar_0 rfl (lv_at hl 0 rfl) ?_
  refine lv_iload_n hx hb dX6_bar_1 rfl (lv_at hl 1 rfl) ?_
  refine q_callSI (As := [.int (nI i)]) (r := q_b (mB (nI i) 8)) hx hb hml hown hT hK hP hD hS hA (c_X6_isPost l D cA (nI i)) k_X6_isPost kl_X6_96 hl rfl rfl (Nat.le_of_ble_eq_true rfl) ⟨⟨rfl, rfl⟩, Nat.le_of_ble_eq_true rfl, Nat.le_of_ble_eq_true rfl⟩ ⟨Nat.zero_le _, Nat.zero_le _⟩ dX6_bar_2 (fun H locs hP hD hS => ?_)
  refine lv_if_eq (tgt := 15) hx hb dX6_bar_5 (by decide) (fun c_5 => ?_) (fun c_5 => ?_)
  · have c_5 := q_b0e c_5
    exact absurd c_5 (mB_F (q_r_nI (by omega)) (by omega))
  · have c_5 := q_b0n c_5
    refine lv_iload_n hx hb dX6_bar_8 rfl (lv_at hl 2 rfl) ?_
    refine q_callSI (As := [.int (nI j)]) (r := q_b (mB (nI j) 8)) hx hb hml hown hT hK hP hD hS hA (c_X6_isPost l D cA (nI j)) k_X6_isPost kl_X6_96 hl rfl rfl (Nat.le_of_ble_eq_true rfl) ⟨⟨rfl, rfl⟩, Nat.le_of_ble_eq_true rfl, Nat.le_of_ble_eq_true rfl⟩ ⟨Nat.zero_le _, Nat.zero_le _⟩ dX6_bar_9 (fun H locs hP hD hS => ?_)
    refine lv_if_ne (tgt := 19) hx hb dX6_bar_12 (by decide) (fun c_12 => ?_) (fun c_12 => ?_)
    · have c_12 := q_b0n c_12
      refine lv_iload_n hx hb dX6_bar_19 rfl (lv_at hl 1 rfl) ?_
      refine lv_iload_n hx hb dX6_bar_20 rfl (lv_at hl 2 rfl) ?_
      refine lv_icmp_ne (tgt := 28) hx hb dX6_bar_21 (by decide) (fun c_21 => ?_) (fun c_21 => ?_)
      · have c_21 := nI_eq0 (a := i) (b := j) (by omega) (by omega) c_21
        refine lv_iconst (v := nI 0) hx hb dX6_bar_28 (by decide +kernel) ?_
        refine q_put (ty := .int) (ws1 := mdW cA ad g (zs z 4 0)) hx hb hT hown hK hP hD hS kw_X6 tyX6_ok nmX6 0 rfl rfl 27 (by decide) kf_X6_82 rfl rfl (by decide +kernel) rfl rfl (Nat.le_of_ble_eq_true rfl) rfl dX6_bar_29 (fun H locs hP hD hS => ?_)
        refine lv_aload_n hx hb dX6_bar_32 rfl (lv_at hl 0 rfl) ?_
        refine q_get hx hb hT hown hK hP kw_X6 0 rfl rfl 27 (by decide) kf_X6_82 rfl (v := .int (nI 0)) rfl dX6_bar_33 ?_
        refine lv_if_le (tgt := 41) hx hb dX6_bar_36 (by decide) (fun c_36 => ?_) (fun c_36 => ?_)
        · have c_36 := nI_le1 (a := 0) (b := 0) (by omega) (by omega) c_36
          refine lv_aload_n hx hb dX6_bar_41 rfl (lv_at hl 0 rfl) ?_
          refine q_get hx hb hT hown hK hP kw_X6 0 rfl rfl 6 (by decide) kf_X6_25 rfl (v := .ref (ad 8)) rfl dX6_bar_42 ?_
          refine lv_iload_n hx hb dX6_bar_45 rfl (lv_at hl 1 rfl) ?_
          refine q_iald (f := g 8) hx hb hK hP 6 0 rfl rfl (i) rfl (by omega) (by omega) dX6_bar_46 ?_
          refine lv_iload_n hx hb dX6_bar_47 rfl (lv_at hl 2 rfl) ?_
          refine q_callSI (As := [.int (g 8 i), .int (nI j)]) (r := q_b (hasB (g 8 i) (nI j))) hx hb hml hown hT hK hP hD hS hA (c_X6_has l D cA (g 8 i) (nI j)) k_X6_has kl_X6_104 hl rfl rfl (Nat.le_of_ble_eq_true rfl) ⟨⟨rfl, rfl⟩, Nat.le_of_ble_eq_true rfl, Nat.le_of_ble_eq_true rfl⟩ ⟨Nat.zero_le _, Nat.zero_le _⟩ dX6_bar_48 (fun H locs hP hD hS => ?_)
          refine lv_istore (lv' := [(4, .int (q_b (hasB (g 8 i) (nI j)))), (0, .ref (ad 80)), (1, .int (nI i)), (2, .int (nI j)), (3, .int (q_b is))]) hx hb dX6_bar_51 hl (by decide) rfl (fun ls hl => ?_)
          refine lv_aload_n hx hb dX6_bar_53 rfl (lv_at hl 1 rfl) ?_
          refine q_get hx hb hT hown hK hP kw_X6 0 rfl rfl 6 (by decide) kf_X6_25 rfl (v := .ref (ad 8)) rfl dX6_bar_54 ?_
          refine lv_iload_n hx hb dX6_bar_57 rfl (lv_at hl 2 rfl) ?_
          refine lv_iload_n hx hb dX6_bar_58 rfl (lv_at hl 4 rfl) ?_
          refine lv_if_eq (tgt := 75) hx hb dX6_bar_59 (by decide) (fun c_59 => ?_) (fun c_59 => ?_)
          · have c_59 := q_b0e c_59
            refine lv_aload_n hx hb dX6_bar_75 rfl (lv_at hl 1 rfl) ?_
            refine q_get hx hb hT hown hK hP kw_X6 0 rfl rfl 6 (by decide) kf_X6_25 rfl (v := .ref (ad 8)) rfl dX6_bar_76 ?_
            refine lv_iload_n hx hb dX6_bar_79 rfl (lv_at hl 2 rfl) ?_
            refine q_iald (f := g 8) hx hb hK hP 6 0 rfl rfl (i) rfl (by omega) (by omega) dX6_bar_80 ?_
            refine lv_iconst (v := nI 1) hx hb dX6_bar_81 (by decide +kernel) ?_
            refine lv_iload_n hx hb dX6_bar_82 rfl (lv_at hl 3 rfl) ?_
            refine lv_ishl hx hb dX6_bar_83 ?_
            refine lv_iconst (v := (-1)) hx hb dX6_bar_84 (by decide +kernel) ?_
            refine lv_ixor hx hb dX6_bar_85 ?_
            refine lv_iand hx hb dX6_bar_86 ?_
            refine q_top (y := bitS is ((g 8) i) (nI j)) (by rw [c_59]; rfl) ?_
            exact zqJ87   _ _ _ hP hD hS (lv_sub hl [1, 2, 3, 4, 0] rfl)
          · have c_59 := q_b0n c_59
            refine lv_aload_n hx hb dX6_bar_62 rfl (lv_at hl 1 rfl) ?_
            refine q_get hx hb hT hown hK hP kw_X6 0 rfl rfl 6 (by decide) kf_X6_25 rfl (v := .ref (ad 8)) rfl dX6_bar_63 ?_
            refine lv_iload_n hx hb dX6_bar_66 rfl (lv_at hl 2 rfl) ?_
            refine q_iald (f := g 8) hx hb hK hP 6 0 rfl rfl (i) rfl (by omega) (by omega) dX6_bar_67 ?_
            refine lv_iconst (v := nI 1) hx hb dX6_bar_68 (by decide +kernel) ?_
            refine lv_iload_n hx hb dX6_bar_69 rfl (lv_at hl 3 rfl) ?_
            refine lv_ishl hx hb dX6_bar_70 ?_
            refine lv_ior hx hb dX6_bar_71 ?_
            refine lv_goto (tgt := 87) hx hb dX6_bar_72 (by decide) ?_
            refine q_top (y := bitS is ((g 8) i) (nI j)) (by rw [c_59]; rfl) ?_
            exact zqJ87   _ _ _ hP hD hS (lv_sub hl [1, 2, 3, 4, 0] rfl)
        · have c_36 := nI_le0 (a := 0) (b := 0) (by omega) (by omega) c_36
          exfalso; omega
      · have c_21 := nI_eq1 (a := i) (b := j) (by omega) (by omega) c_21
        exfalso; omega
    · have c_12 := q_b0e c_12
      exact absurd c_12 (mB_F (q_r_nI (by omega)) (by omega))
abbrev rm_X6_barx : Room := { frames := 2, cells := 0, slots := 0, locals := 42 }
set_option maxRecDepth 100000 in
set_option maxHeartbeats 4000000 in
theorem c_X6_barx (l : Launch) (D : va_G) (cA : ClassId) (ad : Nat → Nat) (g : Nat → Nat → Int32) (z : Nat → Nat) (x : Int32) (y : Int32) (is : Bool) (h12 : ¬ (q_r x 8 ∧ q_r y 8)) : q_CI l yX6_bar [Cond.code yX6_bar cX6_bar 5 (some .boolean)] rm_X6_barx D cA [.ref (ad 80), .int x, .int y, .int (q_b is)] (mdW cA ad g z) (nI 0) (mdW cA ad g (zs z 4 1)) := by
  refine q_startI RX6 (by decide +kernel) rfl (Nat.le_of_ble_eq_true rfl) ?_
  intro p e s m below meth c A args H locs ls hx hb hr hml hown hT hlk hP hK hD hA hS hl
  have hl : lv_has ls 5 [(0, .ref (ad 80)), (1, .int x), (2, .int y), (3, .int (q_b is))] := hl
  refine lv_aload_n hx hb dX6_bar_0 rfl (lv_at hl 0 rfl) ?_
  refine lv_iload_n hx hb dX6_bar_1 rfl (lv_at hl 1 rfl) ?_
  refine q_callSI (As := [.int x]) (r := q_b (mB x 8)) hx hb hml hown hT hK hP hD hS hA (c_X6_isPost l D cA x) k_X6_isPost kl_X6_96 hl rfl rfl (Nat.le_of_ble_eq_true rfl) ⟨⟨rfl, rfl⟩, Nat.le_of_ble_eq_true rfl, Nat.le_of_ble_eq_true rfl⟩ ⟨Nat.zero_le _, Nat.zero_le _⟩ dX6_bar_2 (fun H locs hP hD hS => ?_)
  refine lv_if_eq (tgt := 15) hx hb dX6_bar_5 (by decide) (fun c_5 => ?_) (fun c_5 => ?_)
  · have c_5 := q_b0e c_5
    refine lv_iconst (v := nI 1) hx hb dX6_bar_15 (by decide +kernel) ?_
    refine lv_goto (tgt := 29) hx hb dX6_bar_16 (by decide) ?_
    refine q_put (ty := .int) (ws1 := mdW cA ad g (zs z 4 1)) hx hb hT hown hK hP hD hS kw_X6 tyX6_ok nmX6 0 rfl rfl 27 (by decide) kf_X6_82 rfl rfl (by decide +kernel) rfl rfl (Nat.le_of_ble_eq_true rfl) rfl dX6_bar_29 (fun H locs hP hD hS => ?_)
    refine lv_aload_n hx hb dX6_bar_32 rfl (lv_at hl 0 rfl) ?_
    refine q_get hx hb hT hown hK hP kw_X6 0 rfl rfl 27 (by decide) kf_X6_82 rfl (v := .int (nI 1)) rfl dX6_bar_33 ?_
    refine lv_if_le (tgt := 41) hx hb dX6_bar_36 (by decide) (fun c_36 => ?_) (fun c_36 => ?_)
    · have c_36 := nI_le1 (a := 1) (b := 0) (by omega) (by omega) c_36
      exfalso; omega
    · have c_36 := nI_le0 (a := 1) (b := 0) (by omega) (by omega) c_36
      refine lv_iconst (v := nI 0) hx hb dX6_bar_39 (by decide +kernel) ?_
      exact q_zret hx hb hr hlk (Or.inl rfl) (by rfl) hP hS dX6_bar_40
  · have c_5 := q_b0n c_5
    refine lv_iload_n hx hb dX6_bar_8 rfl (lv_at hl 2 rfl) ?_
    refine q_callSI (As := [.int y]) (r := q_b (mB y 8)) hx hb hml hown hT hK hP hD hS hA (c_X6_isPost l D cA y) k_X6_isPost kl_X6_96 hl rfl rfl (Nat.le_of_ble_eq_true rfl) ⟨⟨rfl, rfl⟩, Nat.le_of_ble_eq_true rfl, Nat.le_of_ble_eq_true rfl⟩ ⟨Nat.zero_le _, Nat.zero_le _⟩ dX6_bar_9 (fun H locs hP hD hS => ?_)
    refine lv_if_ne (tgt := 19) hx hb dX6_bar_12 (by decide) (fun c_12 => ?_) (fun c_12 => ?_)
    · have c_12 := q_b0n c_12
      exact absurd ⟨mB_t c_5 (by omega), mB_t c_12 (by omega)⟩ h12
    · have c_12 := q_b0e c_12
      refine lv_iconst (v := nI 1) hx hb dX6_bar_15 (by decide +kernel) ?_
      refine lv_goto (tgt := 29) hx hb dX6_bar_16 (by decide) ?_
      refine q_put (ty := .int) (ws1 := mdW cA ad g (zs z 4 1)) hx hb hT hown hK hP hD hS kw_X6 tyX6_ok nmX6 0 rfl rfl 27 (by decide) kf_X6_82 rfl rfl (by decide +kernel) rfl rfl (Nat.le_of_ble_eq_true rfl) rfl dX6_bar_29 (fun H locs hP hD hS => ?_)
      refine lv_aload_n hx hb dX6_bar_32 rfl (lv_at hl 0 rfl) ?_
      refine q_get hx hb hT hown hK hP kw_X6 0 rfl rfl 27 (by decide) kf_X6_82 rfl (v := .int (nI 1)) rfl dX6_bar_33 ?_
      refine lv_if_le (tgt := 41) hx hb dX6_bar_36 (by decide) (fun c_36 => ?_) (fun c_36 => ?_)
      · have c_36 := nI_le1 (a := 1) (b := 0) (by omega) (by omega) c_36
        exfalso; omega
      · have c_36 := nI_le0 (a := 1) (b := 0) (by omega) (by omega) c_36
        refine lv_iconst (v := nI 0) hx hb dX6_bar_39 (by decide +kernel) ?_
        exact q_zret hx hb hr hlk (Or.inl rfl) (by rfl) hP hS dX6_bar_40
abbrev rm_X6_barx3 : Room := { frames := 2, cells := 0, slots := 0, locals := 42 }
set_option maxRecDepth 100000 in
set_option maxHeartbeats 4000000 in
theorem c_X6_barx3 (l : Launch) (D : va_G) (cA : ClassId) (ad : Nat → Nat) (g : Nat → Nat → Int32) (z : Nat → Nat) (x : Int32) (y : Int32) (is : Bool) (h1 : q_r x 8) (h2 : q_r y 8) (hne : x = y) : q_CI l yX6_bar [Cond.code yX6_bar cX6_bar 5 (some .boolean)] rm_X6_barx3 D cA [.ref (ad 80), .int x, .int y, .int (q_b is)] (mdW cA ad g z) (nI 0) (mdW cA ad g (zs z 4 2)) := by
  refine q_startI RX6 (by decide +kernel) rfl (Nat.le_of_ble_eq_true rfl) ?_
  intro p e s m below meth c A args H locs ls hx hb hr hml hown hT hlk hP hK hD hA hS hl
  have hl : lv_has ls 5 [(0, .ref (ad 80)), (1, .int x), (2, .int y), (3, .int (q_b is))] := hl
  refine lv_aload_n hx hb dX6_bar_0 rfl (lv_at hl 0 rfl) ?_
  refine lv_iload_n hx hb dX6_bar_1 rfl (lv_at hl 1 rfl) ?_
  refine q_callSI (As := [.int x]) (r := q_b (mB x 8)) hx hb hml hown hT hK hP hD hS hA (c_X6_isPost l D cA x) k_X6_isPost kl_X6_96 hl rfl rfl (Nat.le_of_ble_eq_true rfl) ⟨⟨rfl, rfl⟩, Nat.le_of_ble_eq_true rfl, Nat.le_of_ble_eq_true rfl⟩ ⟨Nat.zero_le _, Nat.zero_le _⟩ dX6_bar_2 (fun H locs hP hD hS => ?_)
  refine lv_if_eq (tgt := 15) hx hb dX6_bar_5 (by decide) (fun c_5 => ?_) (fun c_5 => ?_)
  · have c_5 := q_b0e c_5
    exact absurd c_5 (mB_F h1 (by omega))
  · have c_5 := q_b0n c_5
    refine lv_iload_n hx hb dX6_bar_8 rfl (lv_at hl 2 rfl) ?_
    refine q_callSI (As := [.int y]) (r := q_b (mB y 8)) hx hb hml hown hT hK hP hD hS hA (c_X6_isPost l D cA y) k_X6_isPost kl_X6_96 hl rfl rfl (Nat.le_of_ble_eq_true rfl) ⟨⟨rfl, rfl⟩, Nat.le_of_ble_eq_true rfl, Nat.le_of_ble_eq_true rfl⟩ ⟨Nat.zero_le _, Nat.zero_le _⟩ dX6_bar_9 (fun H locs hP hD hS => ?_)
    refine lv_if_ne (tgt := 19) hx hb dX6_bar_12 (by decide) (fun c_12 => ?_) (fun c_12 => ?_)
    · have c_12 := q_b0n c_12
      refine lv_iload_n hx hb dX6_bar_19 rfl (lv_at hl 1 rfl) ?_
      refine lv_iload_n hx hb dX6_bar_20 rfl (lv_at hl 2 rfl) ?_
      refine lv_icmp_ne (tgt := 28) hx hb dX6_bar_21 (by decide) (fun c_21 => ?_) (fun c_21 => ?_)
      · exact absurd hne c_21
      · refine lv_iconst (v := nI 2) hx hb dX6_bar_24 (by decide +kernel) ?_
        refine lv_goto (tgt := 29) hx hb dX6_bar_25 (by decide) ?_
        refine q_put (ty := .int) (ws1 := mdW cA ad g (zs z 4 2)) hx hb hT hown hK hP hD hS kw_X6 tyX6_ok nmX6 0 rfl rfl 27 (by decide) kf_X6_82 rfl rfl (by decide +kernel) rfl rfl (Nat.le_of_ble_eq_true rfl) rfl dX6_bar_29 (fun H locs hP hD hS => ?_)
        refine lv_aload_n hx hb dX6_bar_32 rfl (lv_at hl 0 rfl) ?_
        refine q_get hx hb hT hown hK hP kw_X6 0 rfl rfl 27 (by decide) kf_X6_82 rfl (v := .int (nI 2)) rfl dX6_bar_33 ?_
        refine lv_if_le (tgt := 41) hx hb dX6_bar_36 (by decide) (fun c_36 => ?_) (fun c_36 => ?_)
        · have c_36 := nI_le1 (a := 2) (b := 0) (by omega) (by omega) c_36
          exfalso; omega
        · have c_36 := nI_le0 (a := 2) (b := 0) (by omega) (by omega) c_36
          refine lv_iconst (v := nI 0) hx hb dX6_bar_39 (by decide +kernel) ?_
          exact q_zret hx hb hr hlk (Or.inl rfl) (by rfl) hP hS dX6_bar_40
    · have c_12 := q_b0e c_12
      exact absurd c_12 (mB_F h2 (by omega))
