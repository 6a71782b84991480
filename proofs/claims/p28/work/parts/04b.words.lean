set_option maxRecDepth 1000000 in
theorem kb_L_refuses : lw_tbl[753]? = some (.code yL_refuses cL_refuses 16 (some .boolean)) := by rfl
theorem k_L_refuses : q_okS yL_refuses cL_refuses 16 (some .boolean) 3 := ⟨⟨List.mem_of_getElem? kb_L_refuses, by decide +kernel⟩, ki_OfficeholdersRollLaw, ⟨List.mem_of_getElem? (i := 752) (by decide +kernel), by decide +kernel⟩, ⟨by decide +kernel, by decide +kernel⟩, by decide +kernel⟩
set_option maxRecDepth 1000000 in
theorem kb_L_roll : lw_tbl[757]? = some (.code yL_roll cL_roll 1 (some .boolean)) := by rfl
theorem k_L_roll : q_okS yL_roll cL_roll 1 (some .boolean) 0 := ⟨⟨List.mem_of_getElem? kb_L_roll, by decide +kernel⟩, ki_OfficeholdersRollLaw, ⟨List.mem_of_getElem? (i := 756) (by decide +kernel), by decide +kernel⟩, ⟨by decide +kernel, by decide +kernel⟩, by decide +kernel⟩
set_option maxRecDepth 1000000 in
theorem kb_L_careers : lw_tbl[769]? = some (.code yL_careers cL_careers 1 (some .boolean)) := by rfl
theorem k_L_careers : q_okS yL_careers cL_careers 1 (some .boolean) 1 := ⟨⟨List.mem_of_getElem? kb_L_careers, by decide +kernel⟩, ki_OfficeholdersRollLaw, ⟨List.mem_of_getElem? (i := 768) (by decide +kernel), by decide +kernel⟩, ⟨by decide +kernel, by decide +kernel⟩, by decide +kernel⟩
set_option maxRecDepth 1000000 in
theorem kb_L_joins : lw_tbl[772]? = some (.code yL_joins cL_joins 1 (some .boolean)) := by rfl
theorem k_L_joins : q_okS yL_joins cL_joins 1 (some .boolean) 1 := ⟨⟨List.mem_of_getElem? kb_L_joins, by decide +kernel⟩, ki_OfficeholdersRollLaw, ⟨List.mem_of_getElem? (i := 771) (by decide +kernel), by decide +kernel⟩, ⟨by decide +kernel, by decide +kernel⟩, by decide +kernel⟩
set_option maxRecDepth 1000000 in
theorem kb_L_most : lw_tbl[775]? = some (.code yL_most cL_most 2 (some .boolean)) := by rfl
theorem k_L_most : q_okS yL_most cL_most 2 (some .boolean) 0 := ⟨⟨List.mem_of_getElem? kb_L_most, by decide +kernel⟩, ki_OfficeholdersRollLaw, ⟨List.mem_of_getElem? (i := 774) (by decide +kernel), by decide +kernel⟩, ⟨by decide +kernel, by decide +kernel⟩, by decide +kernel⟩
set_option maxRecDepth 1000000 in
theorem kb_L_rounds : lw_tbl[779]? = some (.code yL_rounds cL_rounds 1 (some .boolean)) := by rfl
theorem k_L_rounds : q_okS yL_rounds cL_rounds 1 (some .boolean) 0 := ⟨⟨List.mem_of_getElem? kb_L_rounds, by decide +kernel⟩, ki_OfficeholdersRollLaw, ⟨List.mem_of_getElem? (i := 778) (by decide +kernel), by decide +kernel⟩, ⟨by decide +kernel, by decide +kernel⟩, by decide +kernel⟩
