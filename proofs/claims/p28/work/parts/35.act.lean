abbrev rm_A : Room := { frames := 9, cells := 1, slots := 6, locals := 180 }
section AC
variable {p : Program} {l : Launch} {e : Env} {R : Room} {s : State} {m : MethodId} {args : Array Value} {below : List Frame} {meth : Method} {c : Code} {H : Heap} {locs : List Loc} {cells slots : Nat} {Q : State → Prop} {ls : Array Slot} {v0 : Value} {lt : List (Nat × Value)}
theorem ac_0 (hx : p.tables.exec = Jvm.exec) (hb : c.code = cL_act) (hl : lv_has ls 7 ((0, v0) :: (1, .int (nI 0)) :: lt)) (kk : W p l e R s m args below meth c H locs cells slots Q (F0 m 4 ls [])) : W p l e R s m args below meth c H locs cells slots Q (F0 m 0 ls []) := by
  refine lv_iload_n hx hb dL_act_0 rfl (lv_at hl 1 rfl) ?_
  refine lv_if_ne (tgt := 17) hx hb dL_act_1 (by decide) (fun c9 => absurd rfl c9) (fun _ => ?_)
  exact kk
theorem ac_1 (hx : p.tables.exec = Jvm.exec) (hb : c.code = cL_act) (hl : lv_has ls 7 ((0, v0) :: (1, .int (nI 1)) :: lt)) (kk : W p l e R s m args below meth c H locs cells slots Q (F0 m 22 ls [])) : W p l e R s m args below meth c H locs cells slots Q (F0 m 0 ls []) := by
  refine lv_iload_n hx hb dL_act_0 rfl (lv_at hl 1 rfl) ?_
  refine lv_if_ne (tgt := 17) hx hb dL_act_1 (by decide) (fun _ => ?_) (fun c9 => absurd c9 (by decide +kernel))
  refine lv_iload_n hx hb dL_act_17 rfl (lv_at hl 1 rfl) ?_
  refine lv_iconst (v := nI 1) hx hb dL_act_18 (by decide +kernel) ?_
  refine lv_icmp_ne (tgt := 31) hx hb dL_act_19 (by decide) (fun c9 => absurd rfl c9) (fun _ => ?_)
  exact kk
theorem ac_2 (hx : p.tables.exec = Jvm.exec) (hb : c.code = cL_act) (hl : lv_has ls 7 ((0, v0) :: (1, .int (nI 2)) :: lt)) (kk : W p l e R s m args below meth c H locs cells slots Q (F0 m 36 ls [])) : W p l e R s m args below meth c H locs cells slots Q (F0 m 0 ls []) := by
  refine lv_iload_n hx hb dL_act_0 rfl (lv_at hl 1 rfl) ?_
  refine lv_if_ne (tgt := 17) hx hb dL_act_1 (by decide) (fun _ => ?_) (fun c9 => absurd c9 (by decide +kernel))
  refine lv_iload_n hx hb dL_act_17 rfl (lv_at hl 1 rfl) ?_
  refine lv_iconst (v := nI 1) hx hb dL_act_18 (by decide +kernel) ?_
  refine lv_icmp_ne (tgt := 31) hx hb dL_act_19 (by decide) (fun _ => ?_) (fun c9 => absurd c9 (by decide +kernel))
  refine lv_iload_n hx hb dL_act_31 rfl (lv_at hl 1 rfl) ?_
  refine lv_iconst (v := nI 2) hx hb dL_act_32 (by decide +kernel) ?_
  refine lv_icmp_ne (tgt := 64) hx hb dL_act_33 (by decide) (fun c9 => absurd rfl c9) (fun _ => ?_)
  exact kk
theorem ac_3 (hx : p.tables.exec = Jvm.exec) (hb : c.code = cL_act) (hl : lv_has ls 7 ((0, v0) :: (1, .int (nI 3)) :: lt)) (kk : W p l e R s m args below meth c H locs cells slots Q (F0 m 69 ls [])) : W p l e R s m args below meth c H locs cells slots Q (F0 m 0 ls []) := by
  refine lv_iload_n hx hb dL_act_0 rfl (lv_at hl 1 rfl) ?_
  refine lv_if_ne (tgt := 17) hx hb dL_act_1 (by decide) (fun _ => ?_) (fun c9 => absurd c9 (by decide +kernel))
  refine lv_iload_n hx hb dL_act_17 rfl (lv_at hl 1 rfl) ?_
  refine lv_iconst (v := nI 1) hx hb dL_act_18 (by decide +kernel) ?_
  refine lv_icmp_ne (tgt := 31) hx hb dL_act_19 (by decide) (fun _ => ?_) (fun c9 => absurd c9 (by decide +kernel))
  refine lv_iload_n hx hb dL_act_31 rfl (lv_at hl 1 rfl) ?_
  refine lv_iconst (v := nI 2) hx hb dL_act_32 (by decide +kernel) ?_
  refine lv_icmp_ne (tgt := 64) hx hb dL_act_33 (by decide) (fun _ => ?_) (fun c9 => absurd c9 (by decide +kernel))
  refine lv_iload_n hx hb dL_act_64 rfl (lv_at hl 1 rfl) ?_
  refine lv_iconst (v := nI 3) hx hb dL_act_65 (by decide +kernel) ?_
  refine lv_icmp_ne (tgt := 80) hx hb dL_act_66 (by decide) (fun c9 => absurd rfl c9) (fun _ => ?_)
  exact kk
theorem ac_4 (hx : p.tables.exec = Jvm.exec) (hb : c.code = cL_act) (hl : lv_has ls 7 ((0, v0) :: (1, .int (nI 4)) :: lt)) (kk : W p l e R s m args below meth c H locs cells slots Q (F0 m 85 ls [])) : W p l e R s m args below meth c H locs cells slots Q (F0 m 0 ls []) := by
  refine lv_iload_n hx hb dL_act_0 rfl (lv_at hl 1 rfl) ?_
  refine lv_if_ne (tgt := 17) hx hb dL_act_1 (by decide) (fun _ => ?_) (fun c9 => absurd c9 (by decide +kernel))
  refine lv_iload_n hx hb dL_act_17 rfl (lv_at hl 1 rfl) ?_
  refine lv_iconst (v := nI 1) hx hb dL_act_18 (by decide +kernel) ?_
  refine lv_icmp_ne (tgt := 31) hx hb dL_act_19 (by decide) (fun _ => ?_) (fun c9 => absurd c9 (by decide +kernel))
  refine lv_iload_n hx hb dL_act_31 rfl (lv_at hl 1 rfl) ?_
  refine lv_iconst (v := nI 2) hx hb dL_act_32 (by decide +kernel) ?_
  refine lv_icmp_ne (tgt := 64) hx hb dL_act_33 (by decide) (fun _ => ?_) (fun c9 => absurd c9 (by decide +kernel))
  refine lv_iload_n hx hb dL_act_64 rfl (lv_at hl 1 rfl) ?_
  refine lv_iconst (v := nI 3) hx hb dL_act_65 (by decide +kernel) ?_
  refine lv_icmp_ne (tgt := 80) hx hb dL_act_66 (by decide) (fun _ => ?_) (fun c9 => absurd c9 (by decide +kernel))
  refine lv_iload_n hx hb dL_act_80 rfl (lv_at hl 1 rfl) ?_
  refine lv_iconst (v := nI 4) hx hb dL_act_81 (by decide +kernel) ?_
  refine lv_icmp_ne (tgt := 96) hx hb dL_act_82 (by decide) (fun c9 => absurd rfl c9) (fun _ => ?_)
  exact kk
theorem ac_5 (hx : p.tables.exec = Jvm.exec) (hb : c.code = cL_act) (hl : lv_has ls 7 ((0, v0) :: (1, .int (nI 5)) :: lt)) (kk : W p l e R s m args below meth c H locs cells slots Q (F0 m 101 ls [])) : W p l e R s m args below meth c H locs cells slots Q (F0 m 0 ls []) := by
  refine lv_iload_n hx hb dL_act_0 rfl (lv_at hl 1 rfl) ?_
  refine lv_if_ne (tgt := 17) hx hb dL_act_1 (by decide) (fun _ => ?_) (fun c9 => absurd c9 (by decide +kernel))
  refine lv_iload_n hx hb dL_act_17 rfl (lv_at hl 1 rfl) ?_
  refine lv_iconst (v := nI 1) hx hb dL_act_18 (by decide +kernel) ?_
  refine lv_icmp_ne (tgt := 31) hx hb dL_act_19 (by decide) (fun _ => ?_) (fun c9 => absurd c9 (by decide +kernel))
  refine lv_iload_n hx hb dL_act_31 rfl (lv_at hl 1 rfl) ?_
  refine lv_iconst (v := nI 2) hx hb dL_act_32 (by decide +kernel) ?_
  refine lv_icmp_ne (tgt := 64) hx hb dL_act_33 (by decide) (fun _ => ?_) (fun c9 => absurd c9 (by decide +kernel))
  refine lv_iload_n hx hb dL_act_64 rfl (lv_at hl 1 rfl) ?_
  refine lv_iconst (v := nI 3) hx hb dL_act_65 (by decide +kernel) ?_
  refine lv_icmp_ne (tgt := 80) hx hb dL_act_66 (by decide) (fun _ => ?_) (fun c9 => absurd c9 (by decide +kernel))
  refine lv_iload_n hx hb dL_act_80 rfl (lv_at hl 1 rfl) ?_
  refine lv_iconst (v := nI 4) hx hb dL_act_81 (by decide +kernel) ?_
  refine lv_icmp_ne (tgt := 96) hx hb dL_act_82 (by decide) (fun _ => ?_) (fun c9 => absurd c9 (by decide +kernel))
  refine lv_iload_n hx hb dL_act_96 rfl (lv_at hl 1 rfl) ?_
  refine lv_iconst (v := nI 5) hx hb dL_act_97 (by decide +kernel) ?_
  refine lv_icmp_ne (tgt := 112) hx hb dL_act_98 (by decide) (fun c9 => absurd rfl c9) (fun _ => ?_)
  exact kk
theorem ac_6 (hx : p.tables.exec = Jvm.exec) (hb : c.code = cL_act) (hl : lv_has ls 7 ((0, v0) :: (1, .int (nI 6)) :: lt)) (kk : W p l e R s m args below meth c H locs cells slots Q (F0 m 118 ls [])) : W p l e R s m args below meth c H locs cells slots Q (F0 m 0 ls []) := by
  refine lv_iload_n hx hb dL_act_0 rfl (lv_at hl 1 rfl) ?_
  refine lv_if_ne (tgt := 17) hx hb dL_act_1 (by decide) (fun _ => ?_) (fun c9 => absurd c9 (by decide +kernel))
  refine lv_iload_n hx hb dL_act_17 rfl (lv_at hl 1 rfl) ?_
  refine lv_iconst (v := nI 1) hx hb dL_act_18 (by decide +kernel) ?_
  refine lv_icmp_ne (tgt := 31) hx hb dL_act_19 (by decide) (fun _ => ?_) (fun c9 => absurd c9 (by decide +kernel))
  refine lv_iload_n hx hb dL_act_31 rfl (lv_at hl 1 rfl) ?_
  refine lv_iconst (v := nI 2) hx hb dL_act_32 (by decide +kernel) ?_
  refine lv_icmp_ne (tgt := 64) hx hb dL_act_33 (by decide) (fun _ => ?_) (fun c9 => absurd c9 (by decide +kernel))
  refine lv_iload_n hx hb dL_act_64 rfl (lv_at hl 1 rfl) ?_
  refine lv_iconst (v := nI 3) hx hb dL_act_65 (by decide +kernel) ?_
  refine lv_icmp_ne (tgt := 80) hx hb dL_act_66 (by decide) (fun _ => ?_) (fun c9 => absurd c9 (by decide +kernel))
  refine lv_iload_n hx hb dL_act_80 rfl (lv_at hl 1 rfl) ?_
  refine lv_iconst (v := nI 4) hx hb dL_act_81 (by decide +kernel) ?_
  refine lv_icmp_ne (tgt := 96) hx hb dL_act_82 (by decide) (fun _ => ?_) (fun c9 => absurd c9 (by decide +kernel))
  refine lv_iload_n hx hb dL_act_96 rfl (lv_at hl 1 rfl) ?_
  refine lv_iconst (v := nI 5) hx hb dL_act_97 (by decide +kernel) ?_
  refine lv_icmp_ne (tgt := 112) hx hb dL_act_98 (by decide) (fun _ => ?_) (fun c9 => absurd c9 (by decide +kernel))
  refine lv_iload_n hx hb dL_act_112 rfl (lv_at hl 1 rfl) ?_
  refine lv_bipush (v := nI 6) hx hb dL_act_113 (by decide +kernel) ?_
  refine lv_icmp_ne (tgt := 136) hx hb dL_act_115 (by decide) (fun c9 => absurd rfl c9) (fun _ => ?_)
  exact kk
theorem ac_7 (hx : p.tables.exec = Jvm.exec) (hb : c.code = cL_act) (hl : lv_has ls 7 ((0, v0) :: (1, .int (nI 7)) :: lt)) (kk : W p l e R s m args below meth c H locs cells slots Q (F0 m 142 ls [])) : W p l e R s m args below meth c H locs cells slots Q (F0 m 0 ls []) := by
  refine lv_iload_n hx hb dL_act_0 rfl (lv_at hl 1 rfl) ?_
  refine lv_if_ne (tgt := 17) hx hb dL_act_1 (by decide) (fun _ => ?_) (fun c9 => absurd c9 (by decide +kernel))
  refine lv_iload_n hx hb dL_act_17 rfl (lv_at hl 1 rfl) ?_
  refine lv_iconst (v := nI 1) hx hb dL_act_18 (by decide +kernel) ?_
  refine lv_icmp_ne (tgt := 31) hx hb dL_act_19 (by decide) (fun _ => ?_) (fun c9 => absurd c9 (by decide +kernel))
  refine lv_iload_n hx hb dL_act_31 rfl (lv_at hl 1 rfl) ?_
  refine lv_iconst (v := nI 2) hx hb dL_act_32 (by decide +kernel) ?_
  refine lv_icmp_ne (tgt := 64) hx hb dL_act_33 (by decide) (fun _ => ?_) (fun c9 => absurd c9 (by decide +kernel))
  refine lv_iload_n hx hb dL_act_64 rfl (lv_at hl 1 rfl) ?_
  refine lv_iconst (v := nI 3) hx hb dL_act_65 (by decide +kernel) ?_
  refine lv_icmp_ne (tgt := 80) hx hb dL_act_66 (by decide) (fun _ => ?_) (fun c9 => absurd c9 (by decide +kernel))
  refine lv_iload_n hx hb dL_act_80 rfl (lv_at hl 1 rfl) ?_
  refine lv_iconst (v := nI 4) hx hb dL_act_81 (by decide +kernel) ?_
  refine lv_icmp_ne (tgt := 96) hx hb dL_act_82 (by decide) (fun _ => ?_) (fun c9 => absurd c9 (by decide +kernel))
  refine lv_iload_n hx hb dL_act_96 rfl (lv_at hl 1 rfl) ?_
  refine lv_iconst (v := nI 5) hx hb dL_act_97 (by decide +kernel) ?_
  refine lv_icmp_ne (tgt := 112) hx hb dL_act_98 (by decide) (fun _ => ?_) (fun c9 => absurd c9 (by decide +kernel))
  refine lv_iload_n hx hb dL_act_112 rfl (lv_at hl 1 rfl) ?_
  refine lv_bipush (v := nI 6) hx hb dL_act_113 (by decide +kernel) ?_
  refine lv_icmp_ne (tgt := 136) hx hb dL_act_115 (by decide) (fun _ => ?_) (fun c9 => absurd c9 (by decide +kernel))
  refine lv_iload_n hx hb dL_act_136 rfl (lv_at hl 1 rfl) ?_
  refine lv_bipush (v := nI 7) hx hb dL_act_137 (by decide +kernel) ?_
  refine lv_icmp_ne (tgt := 160) hx hb dL_act_139 (by decide) (fun c9 => absurd rfl c9) (fun _ => ?_)
  exact kk
theorem ac_8 (hx : p.tables.exec = Jvm.exec) (hb : c.code = cL_act) (hl : lv_has ls 7 ((0, v0) :: (1, .int (nI 8)) :: lt)) (kk : W p l e R s m args below meth c H locs cells slots Q (F0 m 166 ls [])) : W p l e R s m args below meth c H locs cells slots Q (F0 m 0 ls []) := by
  refine lv_iload_n hx hb dL_act_0 rfl (lv_at hl 1 rfl) ?_
  refine lv_if_ne (tgt := 17) hx hb dL_act_1 (by decide) (fun _ => ?_) (fun c9 => absurd c9 (by decide +kernel))
  refine lv_iload_n hx hb dL_act_17 rfl (lv_at hl 1 rfl) ?_
  refine lv_iconst (v := nI 1) hx hb dL_act_18 (by decide +kernel) ?_
  refine lv_icmp_ne (tgt := 31) hx hb dL_act_19 (by decide) (fun _ => ?_) (fun c9 => absurd c9 (by decide +kernel))
  refine lv_iload_n hx hb dL_act_31 rfl (lv_at hl 1 rfl) ?_
  refine lv_iconst (v := nI 2) hx hb dL_act_32 (by decide +kernel) ?_
  refine lv_icmp_ne (tgt := 64) hx hb dL_act_33 (by decide) (fun _ => ?_) (fun c9 => absurd c9 (by decide +kernel))
  refine lv_iload_n hx hb dL_act_64 rfl (lv_at hl 1 rfl) ?_
  refine lv_iconst (v := nI 3) hx hb dL_act_65 (by decide +kernel) ?_
  refine lv_icmp_ne (tgt := 80) hx hb dL_act_66 (by decide) (fun _ => ?_) (fun c9 => absurd c9 (by decide +kernel))
  refine lv_iload_n hx hb dL_act_80 rfl (lv_at hl 1 rfl) ?_
  refine lv_iconst (v := nI 4) hx hb dL_act_81 (by decide +kernel) ?_
  refine lv_icmp_ne (tgt := 96) hx hb dL_act_82 (by decide) (fun _ => ?_) (fun c9 => absurd c9 (by decide +kernel))
  refine lv_iload_n hx hb dL_act_96 rfl (lv_at hl 1 rfl) ?_
  refine lv_iconst (v := nI 5) hx hb dL_act_97 (by decide +kernel) ?_
  refine lv_icmp_ne (tgt := 112) hx hb dL_act_98 (by decide) (fun _ => ?_) (fun c9 => absurd c9 (by decide +kernel))
  refine lv_iload_n hx hb dL_act_112 rfl (lv_at hl 1 rfl) ?_
  refine lv_bipush (v := nI 6) hx hb dL_act_113 (by decide +kernel) ?_
  refine lv_icmp_ne (tgt := 136) hx hb dL_act_115 (by decide) (fun _ => ?_) (fun c9 => absurd c9 (by decide +kernel))
  refine lv_iload_n hx hb dL_act_136 rfl (lv_at hl 1 rfl) ?_
  refine lv_bipush (v := nI 7) hx hb dL_act_137 (by decide +kernel) ?_
  refine lv_icmp_ne (tgt := 160) hx hb dL_act_139 (by decide) (fun _ => ?_) (fun c9 => absurd c9 (by decide +kernel))
  refine lv_iload_n hx hb dL_act_160 rfl (lv_at hl 1 rfl) ?_
  refine lv_bipush (v := nI 8) hx hb dL_act_161 (by decide +kernel) ?_
  refine lv_icmp_ne (tgt := 183) hx hb dL_act_163 (by decide) (fun c9 => absurd rfl c9) (fun _ => ?_)
  exact kk
theorem ac_9 (hx : p.tables.exec = Jvm.exec) (hb : c.code = cL_act) (hl : lv_has ls 7 ((0, v0) :: (1, .int (nI 9)) :: lt)) (kk : W p l e R s m args below meth c H locs cells slots Q (F0 m 189 ls [])) : W p l e R s m args below meth c H locs cells slots Q (F0 m 0 ls []) := by
  refine lv_iload_n hx hb dL_act_0 rfl (lv_at hl 1 rfl) ?_
  refine lv_if_ne (tgt := 17) hx hb dL_act_1 (by decide) (fun _ => ?_) (fun c9 => absurd c9 (by decide +kernel))
  refine lv_iload_n hx hb dL_act_17 rfl (lv_at hl 1 rfl) ?_
  refine lv_iconst (v := nI 1) hx hb dL_act_18 (by decide +kernel) ?_
  refine lv_icmp_ne (tgt := 31) hx hb dL_act_19 (by decide) (fun _ => ?_) (fun c9 => absurd c9 (by decide +kernel))
  refine lv_iload_n hx hb dL_act_31 rfl (lv_at hl 1 rfl) ?_
  refine lv_iconst (v := nI 2) hx hb dL_act_32 (by decide +kernel) ?_
  refine lv_icmp_ne (tgt := 64) hx hb dL_act_33 (by decide) (fun _ => ?_) (fun c9 => absurd c9 (by decide +kernel))
  refine lv_iload_n hx hb dL_act_64 rfl (lv_at hl 1 rfl) ?_
  refine lv_iconst (v := nI 3) hx hb dL_act_65 (by decide +kernel) ?_
  refine lv_icmp_ne (tgt := 80) hx hb dL_act_66 (by decide) (fun _ => ?_) (fun c9 => absurd c9 (by decide +kernel))
  refine lv_iload_n hx hb dL_act_80 rfl (lv_at hl 1 rfl) ?_
  refine lv_iconst (v := nI 4) hx hb dL_act_81 (by decide +kernel) ?_
  refine lv_icmp_ne (tgt := 96) hx hb dL_act_82 (by decide) (fun _ => ?_) (fun c9 => absurd c9 (by decide +kernel))
  refine lv_iload_n hx hb dL_act_96 rfl (lv_at hl 1 rfl) ?_
  refine lv_iconst (v := nI 5) hx hb dL_act_97 (by decide +kernel) ?_
  refine lv_icmp_ne (tgt := 112) hx hb dL_act_98 (by decide) (fun _ => ?_) (fun c9 => absurd c9 (by decide +kernel))
  refine lv_iload_n hx hb dL_act_112 rfl (lv_at hl 1 rfl) ?_
  refine lv_bipush (v := nI 6) hx hb dL_act_113 (by decide +kernel) ?_
  refine lv_icmp_ne (tgt := 136) hx hb dL_act_115 (by decide) (fun _ => ?_) (fun c9 => absurd c9 (by decide +kernel))
  refine lv_iload_n hx hb dL_act_136 rfl (lv_at hl 1 rfl) ?_
  refine lv_bipush (v := nI 7) hx hb dL_act_137 (by decide +kernel) ?_
  refine lv_icmp_ne (tgt := 160) hx hb dL_act_139 (by decide) (fun _ => ?_) (fun c9 => absurd c9 (by decide +kernel))
  refine lv_iload_n hx hb dL_act_160 rfl (lv_at hl 1 rfl) ?_
  refine lv_bipush (v := nI 8) hx hb dL_act_161 (by decide +kernel) ?_
  refine lv_icmp_ne (tgt := 183) hx hb dL_act_163 (by decide) (fun _ => ?_) (fun c9 => absurd c9 (by decide +kernel))
  refine lv_iload_n hx hb dL_act_183 rfl (lv_at hl 1 rfl) ?_
  refine lv_bipush (v := nI 9) hx hb dL_act_184 (by decide +kernel) ?_
  refine lv_icmp_ne (tgt := 217) hx hb dL_act_186 (by decide) (fun c9 => absurd rfl c9) (fun _ => ?_)
  exact kk
theorem ac_10 (hx : p.tables.exec = Jvm.exec) (hb : c.code = cL_act) (hl : lv_has ls 7 ((0, v0) :: (1, .int (nI 10)) :: lt)) (kk : W p l e R s m args below meth c H locs cells slots Q (F0 m 223 ls [])) : W p l e R s m args below meth c H locs cells slots Q (F0 m 0 ls []) := by
  refine lv_iload_n hx hb dL_act_0 rfl (lv_at hl 1 rfl) ?_
  refine lv_if_ne (tgt := 17) hx hb dL_act_1 (by decide) (fun _ => ?_) (fun c9 => absurd c9 (by decide +kernel))
  refine lv_iload_n hx hb dL_act_17 rfl (lv_at hl 1 rfl) ?_
  refine lv_iconst (v := nI 1) hx hb dL_act_18 (by decide +kernel) ?_
  refine lv_icmp_ne (tgt := 31) hx hb dL_act_19 (by decide) (fun _ => ?_) (fun c9 => absurd c9 (by decide +kernel))
  refine lv_iload_n hx hb dL_act_31 rfl (lv_at hl 1 rfl) ?_
  refine lv_iconst (v := nI 2) hx hb dL_act_32 (by decide +kernel) ?_
  refine lv_icmp_ne (tgt := 64) hx hb dL_act_33 (by decide) (fun _ => ?_) (fun c9 => absurd c9 (by decide +kernel))
  refine lv_iload_n hx hb dL_act_64 rfl (lv_at hl 1 rfl) ?_
  refine lv_iconst (v := nI 3) hx hb dL_act_65 (by decide +kernel) ?_
  refine lv_icmp_ne (tgt := 80) hx hb dL_act_66 (by decide) (fun _ => ?_) (fun c9 => absurd c9 (by decide +kernel))
  refine lv_iload_n hx hb dL_act_80 rfl (lv_at hl 1 rfl) ?_
  refine lv_iconst (v := nI 4) hx hb dL_act_81 (by decide +kernel) ?_
  refine lv_icmp_ne (tgt := 96) hx hb dL_act_82 (by decide) (fun _ => ?_) (fun c9 => absurd c9 (by decide +kernel))
  refine lv_iload_n hx hb dL_act_96 rfl (lv_at hl 1 rfl) ?_
  refine lv_iconst (v := nI 5) hx hb dL_act_97 (by decide +kernel) ?_
  refine lv_icmp_ne (tgt := 112) hx hb dL_act_98 (by decide) (fun _ => ?_) (fun c9 => absurd c9 (by decide +kernel))
  refine lv_iload_n hx hb dL_act_112 rfl (lv_at hl 1 rfl) ?_
  refine lv_bipush (v := nI 6) hx hb dL_act_113 (by decide +kernel) ?_
  refine lv_icmp_ne (tgt := 136) hx hb dL_act_115 (by decide) (fun _ => ?_) (fun c9 => absurd c9 (by decide +kernel))
  refine lv_iload_n hx hb dL_act_136 rfl (lv_at hl 1 rfl) ?_
  refine lv_bipush (v := nI 7) hx hb dL_act_137 (by decide +kernel) ?_
  refine lv_icmp_ne (tgt := 160) hx hb dL_act_139 (by decide) (fun _ => ?_) (fun c9 => absurd c9 (by decide +kernel))
  refine lv_iload_n hx hb dL_act_160 rfl (lv_at hl 1 rfl) ?_
  refine lv_bipush (v := nI 8) hx hb dL_act_161 (by decide +kernel) ?_
  refine lv_icmp_ne (tgt := 183) hx hb dL_act_163 (by decide) (fun _ => ?_) (fun c9 => absurd c9 (by decide +kernel))
  refine lv_iload_n hx hb dL_act_183 rfl (lv_at hl 1 rfl) ?_
  refine lv_bipush (v := nI 9) hx hb dL_act_184 (by decide +kernel) ?_
  refine lv_icmp_ne (tgt := 217) hx hb dL_act_186 (by decide) (fun _ => ?_) (fun c9 => absurd c9 (by decide +kernel))
  refine lv_iload_n hx hb dL_act_217 rfl (lv_at hl 1 rfl) ?_
  refine lv_bipush (v := nI 10) hx hb dL_act_218 (by decide +kernel) ?_
  refine lv_icmp_ne (tgt := 232) hx hb dL_act_220 (by decide) (fun c9 => absurd rfl c9) (fun _ => ?_)
  exact kk
theorem ac_11 (hx : p.tables.exec = Jvm.exec) (hb : c.code = cL_act) (hl : lv_has ls 7 ((0, v0) :: (1, .int (nI 11)) :: lt)) (kk : W p l e R s m args below meth c H locs cells slots Q (F0 m 238 ls [])) : W p l e R s m args below meth c H locs cells slots Q (F0 m 0 ls []) := by
  refine lv_iload_n hx hb dL_act_0 rfl (lv_at hl 1 rfl) ?_
  refine lv_if_ne (tgt := 17) hx hb dL_act_1 (by decide) (fun _ => ?_) (fun c9 => absurd c9 (by decide +kernel))
  refine lv_iload_n hx hb dL_act_17 rfl (lv_at hl 1 rfl) ?_
  refine lv_iconst (v := nI 1) hx hb dL_act_18 (by decide +kernel) ?_
  refine lv_icmp_ne (tgt := 31) hx hb dL_act_19 (by decide) (fun _ => ?_) (fun c9 => absurd c9 (by decide +kernel))
  refine lv_iload_n hx hb dL_act_31 rfl (lv_at hl 1 rfl) ?_
  refine lv_iconst (v := nI 2) hx hb dL_act_32 (by decide +kernel) ?_
  refine lv_icmp_ne (tgt := 64) hx hb dL_act_33 (by decide) (fun _ => ?_) (fun c9 => absurd c9 (by decide +kernel))
  refine lv_iload_n hx hb dL_act_64 rfl (lv_at hl 1 rfl) ?_
  refine lv_iconst (v := nI 3) hx hb dL_act_65 (by decide +kernel) ?_
  refine lv_icmp_ne (tgt := 80) hx hb dL_act_66 (by decide) (fun _ => ?_) (fun c9 => absurd c9 (by decide +kernel))
  refine lv_iload_n hx hb dL_act_80 rfl (lv_at hl 1 rfl) ?_
  refine lv_iconst (v := nI 4) hx hb dL_act_81 (by decide +kernel) ?_
  refine lv_icmp_ne (tgt := 96) hx hb dL_act_82 (by decide) (fun _ => ?_) (fun c9 => absurd c9 (by decide +kernel))
  refine lv_iload_n hx hb dL_act_96 rfl (lv_at hl 1 rfl) ?_
  refine lv_iconst (v := nI 5) hx hb dL_act_97 (by decide +kernel) ?_
  refine lv_icmp_ne (tgt := 112) hx hb dL_act_98 (by decide) (fun _ => ?_) (fun c9 => absurd c9 (by decide +kernel))
  refine lv_iload_n hx hb dL_act_112 rfl (lv_at hl 1 rfl) ?_
  refine lv_bipush (v := nI 6) hx hb dL_act_113 (by decide +kernel) ?_
  refine lv_icmp_ne (tgt := 136) hx hb dL_act_115 (by decide) (fun _ => ?_) (fun c9 => absurd c9 (by decide +kernel))
  refine lv_iload_n hx hb dL_act_136 rfl (lv_at hl 1 rfl) ?_
  refine lv_bipush (v := nI 7) hx hb dL_act_137 (by decide +kernel) ?_
  refine lv_icmp_ne (tgt := 160) hx hb dL_act_139 (by decide) (fun _ => ?_) (fun c9 => absurd c9 (by decide +kernel))
  refine lv_iload_n hx hb dL_act_160 rfl (lv_at hl 1 rfl) ?_
  refine lv_bipush (v := nI 8) hx hb dL_act_161 (by decide +kernel) ?_
  refine lv_icmp_ne (tgt := 183) hx hb dL_act_163 (by decide) (fun _ => ?_) (fun c9 => absurd c9 (by decide +kernel))
  refine lv_iload_n hx hb dL_act_183 rfl (lv_at hl 1 rfl) ?_
  refine lv_bipush (v := nI 9) hx hb dL_act_184 (by decide +kernel) ?_
  refine lv_icmp_ne (tgt := 217) hx hb dL_act_186 (by decide) (fun _ => ?_) (fun c9 => absurd c9 (by decide +kernel))
  refine lv_iload_n hx hb dL_act_217 rfl (lv_at hl 1 rfl) ?_
  refine lv_bipush (v := nI 10) hx hb dL_act_218 (by decide +kernel) ?_
  refine lv_icmp_ne (tgt := 232) hx hb dL_act_220 (by decide) (fun _ => ?_) (fun c9 => absurd c9 (by decide +kernel))
  refine lv_iload_n hx hb dL_act_232 rfl (lv_at hl 1 rfl) ?_
  refine lv_bipush (v := nI 11) hx hb dL_act_233 (by decide +kernel) ?_
  refine lv_icmp_ne (tgt := 247) hx hb dL_act_235 (by decide) (fun c9 => absurd rfl c9) (fun _ => ?_)
  exact kk
theorem ac_12 (hx : p.tables.exec = Jvm.exec) (hb : c.code = cL_act) (hl : lv_has ls 7 ((0, v0) :: (1, .int (nI 12)) :: lt)) (kk : W p l e R s m args below meth c H locs cells slots Q (F0 m 253 ls [])) : W p l e R s m args below meth c H locs cells slots Q (F0 m 0 ls []) := by
  refine lv_iload_n hx hb dL_act_0 rfl (lv_at hl 1 rfl) ?_
  refine lv_if_ne (tgt := 17) hx hb dL_act_1 (by decide) (fun _ => ?_) (fun c9 => absurd c9 (by decide +kernel))
  refine lv_iload_n hx hb dL_act_17 rfl (lv_at hl 1 rfl) ?_
  refine lv_iconst (v := nI 1) hx hb dL_act_18 (by decide +kernel) ?_
  refine lv_icmp_ne (tgt := 31) hx hb dL_act_19 (by decide) (fun _ => ?_) (fun c9 => absurd c9 (by decide +kernel))
  refine lv_iload_n hx hb dL_act_31 rfl (lv_at hl 1 rfl) ?_
  refine lv_iconst (v := nI 2) hx hb dL_act_32 (by decide +kernel) ?_
  refine lv_icmp_ne (tgt := 64) hx hb dL_act_33 (by decide) (fun _ => ?_) (fun c9 => absurd c9 (by decide +kernel))
  refine lv_iload_n hx hb dL_act_64 rfl (lv_at hl 1 rfl) ?_
  refine lv_iconst (v := nI 3) hx hb dL_act_65 (by decide +kernel) ?_
  refine lv_icmp_ne (tgt := 80) hx hb dL_act_66 (by decide) (fun _ => ?_) (fun c9 => absurd c9 (by decide +kernel))
  refine lv_iload_n hx hb dL_act_80 rfl (lv_at hl 1 rfl) ?_
  refine lv_iconst (v := nI 4) hx hb dL_act_81 (by decide +kernel) ?_
  refine lv_icmp_ne (tgt := 96) hx hb dL_act_82 (by decide) (fun _ => ?_) (fun c9 => absurd c9 (by decide +kernel))
  refine lv_iload_n hx hb dL_act_96 rfl (lv_at hl 1 rfl) ?_
  refine lv_iconst (v := nI 5) hx hb dL_act_97 (by decide +kernel) ?_
  refine lv_icmp_ne (tgt := 112) hx hb dL_act_98 (by decide) (fun _ => ?_) (fun c9 => absurd c9 (by decide +kernel))
  refine lv_iload_n hx hb dL_act_112 rfl (lv_at hl 1 rfl) ?_
  refine lv_bipush (v := nI 6) hx hb dL_act_113 (by decide +kernel) ?_
  refine lv_icmp_ne (tgt := 136) hx hb dL_act_115 (by decide) (fun _ => ?_) (fun c9 => absurd c9 (by decide +kernel))
  refine lv_iload_n hx hb dL_act_136 rfl (lv_at hl 1 rfl) ?_
  refine lv_bipush (v := nI 7) hx hb dL_act_137 (by decide +kernel) ?_
  refine lv_icmp_ne (tgt := 160) hx hb dL_act_139 (by decide) (fun _ => ?_) (fun c9 => absurd c9 (by decide +kernel))
  refine lv_iload_n hx hb dL_act_160 rfl (lv_at hl 1 rfl) ?_
  refine lv_bipush (v := nI 8) hx hb dL_act_161 (by decide +kernel) ?_
  refine lv_icmp_ne (tgt := 183) hx hb dL_act_163 (by decide) (fun _ => ?_) (fun c9 => absurd c9 (by decide +kernel))
  refine lv_iload_n hx hb dL_act_183 rfl (lv_at hl 1 rfl) ?_
  refine lv_bipush (v := nI 9) hx hb dL_act_184 (by decide +kernel) ?_
  refine lv_icmp_ne (tgt := 217) hx hb dL_act_186 (by decide) (fun _ => ?_) (fun c9 => absurd c9 (by decide +kernel))
  refine lv_iload_n hx hb dL_act_217 rfl (lv_at hl 1 rfl) ?_
  refine lv_bipush (v := nI 10) hx hb dL_act_218 (by decide +kernel) ?_
  refine lv_icmp_ne (tgt := 232) hx hb dL_act_220 (by decide) (fun _ => ?_) (fun c9 => absurd c9 (by decide +kernel))
  refine lv_iload_n hx hb dL_act_232 rfl (lv_at hl 1 rfl) ?_
  refine lv_bipush (v := nI 11) hx hb dL_act_233 (by decide +kernel) ?_
  refine lv_icmp_ne (tgt := 247) hx hb dL_act_235 (by decide) (fun _ => ?_) (fun c9 => absurd c9 (by decide +kernel))
  refine lv_iload_n hx hb dL_act_247 rfl (lv_at hl 1 rfl) ?_
  refine lv_bipush (v := nI 12) hx hb dL_act_248 (by decide +kernel) ?_
  refine lv_icmp_ne (tgt := 262) hx hb dL_act_250 (by decide) (fun c9 => absurd rfl c9) (fun _ => ?_)
  exact kk
theorem ac_13 (hx : p.tables.exec = Jvm.exec) (hb : c.code = cL_act) (hl : lv_has ls 7 ((0, v0) :: (1, .int (nI 13)) :: lt)) (kk : W p l e R s m args below meth c H locs cells slots Q (F0 m 268 ls [])) : W p l e R s m args below meth c H locs cells slots Q (F0 m 0 ls []) := by
  refine lv_iload_n hx hb dL_act_0 rfl (lv_at hl 1 rfl) ?_
  refine lv_if_ne (tgt := 17) hx hb dL_act_1 (by decide) (fun _ => ?_) (fun c9 => absurd c9 (by decide +kernel))
  refine lv_iload_n hx hb dL_act_17 rfl (lv_at hl 1 rfl) ?_
  refine lv_iconst (v := nI 1) hx hb dL_act_18 (by decide +kernel) ?_
  refine lv_icmp_ne (tgt := 31) hx hb dL_act_19 (by decide) (fun _ => ?_) (fun c9 => absurd c9 (by decide +kernel))
  refine lv_iload_n hx hb dL_act_31 rfl (lv_at hl 1 rfl) ?_
  refine lv_iconst (v := nI 2) hx hb dL_act_32 (by decide +kernel) ?_
  refine lv_icmp_ne (tgt := 64) hx hb dL_act_33 (by decide) (fun _ => ?_) (fun c9 => absurd c9 (by decide +kernel))
  refine lv_iload_n hx hb dL_act_64 rfl (lv_at hl 1 rfl) ?_
  refine lv_iconst (v := nI 3) hx hb dL_act_65 (by decide +kernel) ?_
  refine lv_icmp_ne (tgt := 80) hx hb dL_act_66 (by decide) (fun _ => ?_) (fun c9 => absurd c9 (by decide +kernel))
  refine lv_iload_n hx hb dL_act_80 rfl (lv_at hl 1 rfl) ?_
  refine lv_iconst (v := nI 4) hx hb dL_act_81 (by decide +kernel) ?_
  refine lv_icmp_ne (tgt := 96) hx hb dL_act_82 (by decide) (fun _ => ?_) (fun c9 => absurd c9 (by decide +kernel))
  refine lv_iload_n hx hb dL_act_96 rfl (lv_at hl 1 rfl) ?_
  refine lv_iconst (v := nI 5) hx hb dL_act_97 (by decide +kernel) ?_
  refine lv_icmp_ne (tgt := 112) hx hb dL_act_98 (by decide) (fun _ => ?_) (fun c9 => absurd c9 (by decide +kernel))
  refine lv_iload_n hx hb dL_act_112 rfl (lv_at hl 1 rfl) ?_
  refine lv_bipush (v := nI 6) hx hb dL_act_113 (by decide +kernel) ?_
  refine lv_icmp_ne (tgt := 136) hx hb dL_act_115 (by decide) (fun _ => ?_) (fun c9 => absurd c9 (by decide +kernel))
  refine lv_iload_n hx hb dL_act_136 rfl (lv_at hl 1 rfl) ?_
  refine lv_bipush (v := nI 7) hx hb dL_act_137 (by decide +kernel) ?_
  refine lv_icmp_ne (tgt := 160) hx hb dL_act_139 (by decide) (fun _ => ?_) (fun c9 => absurd c9 (by decide +kernel))
  refine lv_iload_n hx hb dL_act_160 rfl (lv_at hl 1 rfl) ?_
  refine lv_bipush (v := nI 8) hx hb dL_act_161 (by decide +kernel) ?_
  refine lv_icmp_ne (tgt := 183) hx hb dL_act_163 (by decide) (fun _ => ?_) (fun c9 => absurd c9 (by decide +kernel))
  refine lv_iload_n hx hb dL_act_183 rfl (lv_at hl 1 rfl) ?_
  refine lv_bipush (v := nI 9) hx hb dL_act_184 (by decide +kernel) ?_
  refine lv_icmp_ne (tgt := 217) hx hb dL_act_186 (by decide) (fun _ => ?_) (fun c9 => absurd c9 (by decide +kernel))
  refine lv_iload_n hx hb dL_act_217 rfl (lv_at hl 1 rfl) ?_
  refine lv_bipush (v := nI 10) hx hb dL_act_218 (by decide +kernel) ?_
  refine lv_icmp_ne (tgt := 232) hx hb dL_act_220 (by decide) (fun _ => ?_) (fun c9 => absurd c9 (by decide +kernel))
  refine lv_iload_n hx hb dL_act_232 rfl (lv_at hl 1 rfl) ?_
  refine lv_bipush (v := nI 11) hx hb dL_act_233 (by decide +kernel) ?_
  refine lv_icmp_ne (tgt := 247) hx hb dL_act_235 (by decide) (fun _ => ?_) (fun c9 => absurd c9 (by decide +kernel))
  refine lv_iload_n hx hb dL_act_247 rfl (lv_at hl 1 rfl) ?_
  refine lv_bipush (v := nI 12) hx hb dL_act_248 (by decide +kernel) ?_
  refine lv_icmp_ne (tgt := 262) hx hb dL_act_250 (by decide) (fun _ => ?_) (fun c9 => absurd c9 (by decide +kernel))
  refine lv_iload_n hx hb dL_act_262 rfl (lv_at hl 1 rfl) ?_
  refine lv_bipush (v := nI 13) hx hb dL_act_263 (by decide +kernel) ?_
  refine lv_icmp_ne (tgt := 276) hx hb dL_act_265 (by decide) (fun c9 => absurd rfl c9) (fun _ => ?_)
  exact kk
theorem ac_14 (hx : p.tables.exec = Jvm.exec) (hb : c.code = cL_act) (hl : lv_has ls 7 ((0, v0) :: (1, .int (nI 14)) :: lt)) (kk : W p l e R s m args below meth c H locs cells slots Q (F0 m 282 ls [])) : W p l e R s m args below meth c H locs cells slots Q (F0 m 0 ls []) := by
  refine lv_iload_n hx hb dL_act_0 rfl (lv_at hl 1 rfl) ?_
  refine lv_if_ne (tgt := 17) hx hb dL_act_1 (by decide) (fun _ => ?_) (fun c9 => absurd c9 (by decide +kernel))
  refine lv_iload_n hx hb dL_act_17 rfl (lv_at hl 1 rfl) ?_
  refine lv_iconst (v := nI 1) hx hb dL_act_18 (by decide +kernel) ?_
  refine lv_icmp_ne (tgt := 31) hx hb dL_act_19 (by decide) (fun _ => ?_) (fun c9 => absurd c9 (by decide +kernel))
  refine lv_iload_n hx hb dL_act_31 rfl (lv_at hl 1 rfl) ?_
  refine lv_iconst (v := nI 2) hx hb dL_act_32 (by decide +kernel) ?_
  refine lv_icmp_ne (tgt := 64) hx hb dL_act_33 (by decide) (fun _ => ?_) (fun c9 => absurd c9 (by decide +kernel))
  refine lv_iload_n hx hb dL_act_64 rfl (lv_at hl 1 rfl) ?_
  refine lv_iconst (v := nI 3) hx hb dL_act_65 (by decide +kernel) ?_
  refine lv_icmp_ne (tgt := 80) hx hb dL_act_66 (by decide) (fun _ => ?_) (fun c9 => absurd c9 (by decide +kernel))
  refine lv_iload_n hx hb dL_act_80 rfl (lv_at hl 1 rfl) ?_
  refine lv_iconst (v := nI 4) hx hb dL_act_81 (by decide +kernel) ?_
  refine lv_icmp_ne (tgt := 96) hx hb dL_act_82 (by decide) (fun _ => ?_) (fun c9 => absurd c9 (by decide +kernel))
  refine lv_iload_n hx hb dL_act_96 rfl (lv_at hl 1 rfl) ?_
  refine lv_iconst (v := nI 5) hx hb dL_act_97 (by decide +kernel) ?_
  refine lv_icmp_ne (tgt := 112) hx hb dL_act_98 (by decide) (fun _ => ?_) (fun c9 => absurd c9 (by decide +kernel))
  refine lv_iload_n hx hb dL_act_112 rfl (lv_at hl 1 rfl) ?_
  refine lv_bipush (v := nI 6) hx hb dL_act_113 (by decide +kernel) ?_
  refine lv_icmp_ne (tgt := 136) hx hb dL_act_115 (by decide) (fun _ => ?_) (fun c9 => absurd c9 (by decide +kernel))
  refine lv_iload_n hx hb dL_act_136 rfl (lv_at hl 1 rfl) ?_
  refine lv_bipush (v := nI 7) hx hb dL_act_137 (by decide +kernel) ?_
  refine lv_icmp_ne (tgt := 160) hx hb dL_act_139 (by decide) (fun _ => ?_) (fun c9 => absurd c9 (by decide +kernel))
  refine lv_iload_n hx hb dL_act_160 rfl (lv_at hl 1 rfl) ?_
  refine lv_bipush (v := nI 8) hx hb dL_act_161 (by decide +kernel) ?_
  refine lv_icmp_ne (tgt := 183) hx hb dL_act_163 (by decide) (fun _ => ?_) (fun c9 => absurd c9 (by decide +kernel))
  refine lv_iload_n hx hb dL_act_183 rfl (lv_at hl 1 rfl) ?_
  refine lv_bipush (v := nI 9) hx hb dL_act_184 (by decide +kernel) ?_
  refine lv_icmp_ne (tgt := 217) hx hb dL_act_186 (by decide) (fun _ => ?_) (fun c9 => absurd c9 (by decide +kernel))
  refine lv_iload_n hx hb dL_act_217 rfl (lv_at hl 1 rfl) ?_
  refine lv_bipush (v := nI 10) hx hb dL_act_218 (by decide +kernel) ?_
  refine lv_icmp_ne (tgt := 232) hx hb dL_act_220 (by decide) (fun _ => ?_) (fun c9 => absurd c9 (by decide +kernel))
  refine lv_iload_n hx hb dL_act_232 rfl (lv_at hl 1 rfl) ?_
  refine lv_bipush (v := nI 11) hx hb dL_act_233 (by decide +kernel) ?_
  refine lv_icmp_ne (tgt := 247) hx hb dL_act_235 (by decide) (fun _ => ?_) (fun c9 => absurd c9 (by decide +kernel))
  refine lv_iload_n hx hb dL_act_247 rfl (lv_at hl 1 rfl) ?_
  refine lv_bipush (v := nI 12) hx hb dL_act_248 (by decide +kernel) ?_
  refine lv_icmp_ne (tgt := 262) hx hb dL_act_250 (by decide) (fun _ => ?_) (fun c9 => absurd c9 (by decide +kernel))
  refine lv_iload_n hx hb dL_act_262 rfl (lv_at hl 1 rfl) ?_
  refine lv_bipush (v := nI 13) hx hb dL_act_263 (by decide +kernel) ?_
  refine lv_icmp_ne (tgt := 276) hx hb dL_act_265 (by decide) (fun _ => ?_) (fun c9 => absurd c9 (by decide +kernel))
  refine lv_iload_n hx hb dL_act_276 rfl (lv_at hl 1 rfl) ?_
  refine lv_bipush (v := nI 14) hx hb dL_act_277 (by decide +kernel) ?_
  refine lv_icmp_ne (tgt := 290) hx hb dL_act_279 (by decide) (fun c9 => absurd rfl c9) (fun _ => ?_)
  exact kk
theorem ac_15 (hx : p.tables.exec = Jvm.exec) (hb : c.code = cL_act) (hl : lv_has ls 7 ((0, v0) :: (1, .int (nI 15)) :: lt)) (kk : W p l e R s m args below meth c H locs cells slots Q (F0 m 296 ls [])) : W p l e R s m args below meth c H locs cells slots Q (F0 m 0 ls []) := by
  refine lv_iload_n hx hb dL_act_0 rfl (lv_at hl 1 rfl) ?_
  refine lv_if_ne (tgt := 17) hx hb dL_act_1 (by decide) (fun _ => ?_) (fun c9 => absurd c9 (by decide +kernel))
  refine lv_iload_n hx hb dL_act_17 rfl (lv_at hl 1 rfl) ?_
  refine lv_iconst (v := nI 1) hx hb dL_act_18 (by decide +kernel) ?_
  refine lv_icmp_ne (tgt := 31) hx hb dL_act_19 (by decide) (fun _ => ?_) (fun c9 => absurd c9 (by decide +kernel))
  refine lv_iload_n hx hb dL_act_31 rfl (lv_at hl 1 rfl) ?_
  refine lv_iconst (v := nI 2) hx hb dL_act_32 (by decide +kernel) ?_
  refine lv_icmp_ne (tgt := 64) hx hb dL_act_33 (by decide) (fun _ => ?_) (fun c9 => absurd c9 (by decide +kernel))
  refine lv_iload_n hx hb dL_act_64 rfl (lv_at hl 1 rfl) ?_
  refine lv_iconst (v := nI 3) hx hb dL_act_65 (by decide +kernel) ?_
  refine lv_icmp_ne (tgt := 80) hx hb dL_act_66 (by decide) (fun _ => ?_) (fun c9 => absurd c9 (by decide +kernel))
  refine lv_iload_n hx hb dL_act_80 rfl (lv_at hl 1 rfl) ?_
  refine lv_iconst (v := nI 4) hx hb dL_act_81 (by decide +kernel) ?_
  refine lv_icmp_ne (tgt := 96) hx hb dL_act_82 (by decide) (fun _ => ?_) (fun c9 => absurd c9 (by decide +kernel))
  refine lv_iload_n hx hb dL_act_96 rfl (lv_at hl 1 rfl) ?_
  refine lv_iconst (v := nI 5) hx hb dL_act_97 (by decide +kernel) ?_
  refine lv_icmp_ne (tgt := 112) hx hb dL_act_98 (by decide) (fun _ => ?_) (fun c9 => absurd c9 (by decide +kernel))
  refine lv_iload_n hx hb dL_act_112 rfl (lv_at hl 1 rfl) ?_
  refine lv_bipush (v := nI 6) hx hb dL_act_113 (by decide +kernel) ?_
  refine lv_icmp_ne (tgt := 136) hx hb dL_act_115 (by decide) (fun _ => ?_) (fun c9 => absurd c9 (by decide +kernel))
  refine lv_iload_n hx hb dL_act_136 rfl (lv_at hl 1 rfl) ?_
  refine lv_bipush (v := nI 7) hx hb dL_act_137 (by decide +kernel) ?_
  refine lv_icmp_ne (tgt := 160) hx hb dL_act_139 (by decide) (fun _ => ?_) (fun c9 => absurd c9 (by decide +kernel))
  refine lv_iload_n hx hb dL_act_160 rfl (lv_at hl 1 rfl) ?_
  refine lv_bipush (v := nI 8) hx hb dL_act_161 (by decide +kernel) ?_
  refine lv_icmp_ne (tgt := 183) hx hb dL_act_163 (by decide) (fun _ => ?_) (fun c9 => absurd c9 (by decide +kernel))
  refine lv_iload_n hx hb dL_act_183 rfl (lv_at hl 1 rfl) ?_
  refine lv_bipush (v := nI 9) hx hb dL_act_184 (by decide +kernel) ?_
  refine lv_icmp_ne (tgt := 217) hx hb dL_act_186 (by decide) (fun _ => ?_) (fun c9 => absurd c9 (by decide +kernel))
  refine lv_iload_n hx hb dL_act_217 rfl (lv_at hl 1 rfl) ?_
  refine lv_bipush (v := nI 10) hx hb dL_act_218 (by decide +kernel) ?_
  refine lv_icmp_ne (tgt := 232) hx hb dL_act_220 (by decide) (fun _ => ?_) (fun c9 => absurd c9 (by decide +kernel))
  refine lv_iload_n hx hb dL_act_232 rfl (lv_at hl 1 rfl) ?_
  refine lv_bipush (v := nI 11) hx hb dL_act_233 (by decide +kernel) ?_
  refine lv_icmp_ne (tgt := 247) hx hb dL_act_235 (by decide) (fun _ => ?_) (fun c9 => absurd c9 (by decide +kernel))
  refine lv_iload_n hx hb dL_act_247 rfl (lv_at hl 1 rfl) ?_
  refine lv_bipush (v := nI 12) hx hb dL_act_248 (by decide +kernel) ?_
  refine lv_icmp_ne (tgt := 262) hx hb dL_act_250 (by decide) (fun _ => ?_) (fun c9 => absurd c9 (by decide +kernel))
  refine lv_iload_n hx hb dL_act_262 rfl (lv_at hl 1 rfl) ?_
  refine lv_bipush (v := nI 13) hx hb dL_act_263 (by decide +kernel) ?_
  refine lv_icmp_ne (tgt := 276) hx hb dL_act_265 (by decide) (fun _ => ?_) (fun c9 => absurd c9 (by decide +kernel))
  refine lv_iload_n hx hb dL_act_276 rfl (lv_at hl 1 rfl) ?_
  refine lv_bipush (v := nI 14) hx hb dL_act_277 (by decide +kernel) ?_
  refine lv_icmp_ne (tgt := 290) hx hb dL_act_279 (by decide) (fun _ => ?_) (fun c9 => absurd c9 (by decide +kernel))
  refine lv_iload_n hx hb dL_act_290 rfl (lv_at hl 1 rfl) ?_
  refine lv_bipush (v := nI 15) hx hb dL_act_291 (by decide +kernel) ?_
  refine lv_icmp_ne (tgt := 304) hx hb dL_act_293 (by decide) (fun c9 => absurd rfl c9) (fun _ => ?_)
  exact kk
theorem ac_16 (hx : p.tables.exec = Jvm.exec) (hb : c.code = cL_act) (hl : lv_has ls 7 ((0, v0) :: (1, .int (nI 16)) :: lt)) (kk : W p l e R s m args below meth c H locs cells slots Q (F0 m 310 ls [])) : W p l e R s m args below meth c H locs cells slots Q (F0 m 0 ls []) := by
  refine lv_iload_n hx hb dL_act_0 rfl (lv_at hl 1 rfl) ?_
  refine lv_if_ne (tgt := 17) hx hb dL_act_1 (by decide) (fun _ => ?_) (fun c9 => absurd c9 (by decide +kernel))
  refine lv_iload_n hx hb dL_act_17 rfl (lv_at hl 1 rfl) ?_
  refine lv_iconst (v := nI 1) hx hb dL_act_18 (by decide +kernel) ?_
  refine lv_icmp_ne (tgt := 31) hx hb dL_act_19 (by decide) (fun _ => ?_) (fun c9 => absurd c9 (by decide +kernel))
  refine lv_iload_n hx hb dL_act_31 rfl (lv_at hl 1 rfl) ?_
  refine lv_iconst (v := nI 2) hx hb dL_act_32 (by decide +kernel) ?_
  refine lv_icmp_ne (tgt := 64) hx hb dL_act_33 (by decide) (fun _ => ?_) (fun c9 => absurd c9 (by decide +kernel))
  refine lv_iload_n hx hb dL_act_64 rfl (lv_at hl 1 rfl) ?_
  refine lv_iconst (v := nI 3) hx hb dL_act_65 (by decide +kernel) ?_
  refine lv_icmp_ne (tgt := 80) hx hb dL_act_66 (by decide) (fun _ => ?_) (fun c9 => absurd c9 (by decide +kernel))
  refine lv_iload_n hx hb dL_act_80 rfl (lv_at hl 1 rfl) ?_
  refine lv_iconst (v := nI 4) hx hb dL_act_81 (by decide +kernel) ?_
  refine lv_icmp_ne (tgt := 96) hx hb dL_act_82 (by decide) (fun _ => ?_) (fun c9 => absurd c9 (by decide +kernel))
  refine lv_iload_n hx hb dL_act_96 rfl (lv_at hl 1 rfl) ?_
  refine lv_iconst (v := nI 5) hx hb dL_act_97 (by decide +kernel) ?_
  refine lv_icmp_ne (tgt := 112) hx hb dL_act_98 (by decide) (fun _ => ?_) (fun c9 => absurd c9 (by decide +kernel))
  refine lv_iload_n hx hb dL_act_112 rfl (lv_at hl 1 rfl) ?_
  refine lv_bipush (v := nI 6) hx hb dL_act_113 (by decide +kernel) ?_
  refine lv_icmp_ne (tgt := 136) hx hb dL_act_115 (by decide) (fun _ => ?_) (fun c9 => absurd c9 (by decide +kernel))
  refine lv_iload_n hx hb dL_act_136 rfl (lv_at hl 1 rfl) ?_
  refine lv_bipush (v := nI 7) hx hb dL_act_137 (by decide +kernel) ?_
  refine lv_icmp_ne (tgt := 160) hx hb dL_act_139 (by decide) (fun _ => ?_) (fun c9 => absurd c9 (by decide +kernel))
  refine lv_iload_n hx hb dL_act_160 rfl (lv_at hl 1 rfl) ?_
  refine lv_bipush (v := nI 8) hx hb dL_act_161 (by decide +kernel) ?_
  refine lv_icmp_ne (tgt := 183) hx hb dL_act_163 (by decide) (fun _ => ?_) (fun c9 => absurd c9 (by decide +kernel))
  refine lv_iload_n hx hb dL_act_183 rfl (lv_at hl 1 rfl) ?_
  refine lv_bipush (v := nI 9) hx hb dL_act_184 (by decide +kernel) ?_
  refine lv_icmp_ne (tgt := 217) hx hb dL_act_186 (by decide) (fun _ => ?_) (fun c9 => absurd c9 (by decide +kernel))
  refine lv_iload_n hx hb dL_act_217 rfl (lv_at hl 1 rfl) ?_
  refine lv_bipush (v := nI 10) hx hb dL_act_218 (by decide +kernel) ?_
  refine lv_icmp_ne (tgt := 232) hx hb dL_act_220 (by decide) (fun _ => ?_) (fun c9 => absurd c9 (by decide +kernel))
  refine lv_iload_n hx hb dL_act_232 rfl (lv_at hl 1 rfl) ?_
  refine lv_bipush (v := nI 11) hx hb dL_act_233 (by decide +kernel) ?_
  refine lv_icmp_ne (tgt := 247) hx hb dL_act_235 (by decide) (fun _ => ?_) (fun c9 => absurd c9 (by decide +kernel))
  refine lv_iload_n hx hb dL_act_247 rfl (lv_at hl 1 rfl) ?_
  refine lv_bipush (v := nI 12) hx hb dL_act_248 (by decide +kernel) ?_
  refine lv_icmp_ne (tgt := 262) hx hb dL_act_250 (by decide) (fun _ => ?_) (fun c9 => absurd c9 (by decide +kernel))
  refine lv_iload_n hx hb dL_act_262 rfl (lv_at hl 1 rfl) ?_
  refine lv_bipush (v := nI 13) hx hb dL_act_263 (by decide +kernel) ?_
  refine lv_icmp_ne (tgt := 276) hx hb dL_act_265 (by decide) (fun _ => ?_) (fun c9 => absurd c9 (by decide +kernel))
  refine lv_iload_n hx hb dL_act_276 rfl (lv_at hl 1 rfl) ?_
  refine lv_bipush (v := nI 14) hx hb dL_act_277 (by decide +kernel) ?_
  refine lv_icmp_ne (tgt := 290) hx hb dL_act_279 (by decide) (fun _ => ?_) (fun c9 => absurd c9 (by decide +kernel))
  refine lv_iload_n hx hb dL_act_290 rfl (lv_at hl 1 rfl) ?_
  refine lv_bipush (v := nI 15) hx hb dL_act_291 (by decide +kernel) ?_
  refine lv_icmp_ne (tgt := 304) hx hb dL_act_293 (by decide) (fun _ => ?_) (fun c9 => absurd c9 (by decide +kernel))
  refine lv_iload_n hx hb dL_act_304 rfl (lv_at hl 1 rfl) ?_
  refine lv_bipush (v := nI 16) hx hb dL_act_305 (by decide +kernel) ?_
  refine lv_icmp_ne (tgt := 318) hx hb dL_act_307 (by decide) (fun c9 => absurd rfl c9) (fun _ => ?_)
  exact kk
theorem ac_17 (hx : p.tables.exec = Jvm.exec) (hb : c.code = cL_act) (hl : lv_has ls 7 ((0, v0) :: (1, .int (nI 17)) :: lt)) (kk : W p l e R s m args below meth c H locs cells slots Q (F0 m 324 ls [])) : W p l e R s m args below meth c H locs cells slots Q (F0 m 0 ls []) := by
  refine lv_iload_n hx hb dL_act_0 rfl (lv_at hl 1 rfl) ?_
  refine lv_if_ne (tgt := 17) hx hb dL_act_1 (by decide) (fun _ => ?_) (fun c9 => absurd c9 (by decide +kernel))
  refine lv_iload_n hx hb dL_act_17 rfl (lv_at hl 1 rfl) ?_
  refine lv_iconst (v := nI 1) hx hb dL_act_18 (by decide +kernel) ?_
  refine lv_icmp_ne (tgt := 31) hx hb dL_act_19 (by decide) (fun _ => ?_) (fun c9 => absurd c9 (by decide +kernel))
  refine lv_iload_n hx hb dL_act_31 rfl (lv_at hl 1 rfl) ?_
  refine lv_iconst (v := nI 2) hx hb dL_act_32 (by decide +kernel) ?_
  refine lv_icmp_ne (tgt := 64) hx hb dL_act_33 (by decide) (fun _ => ?_) (fun c9 => absurd c9 (by decide +kernel))
  refine lv_iload_n hx hb dL_act_64 rfl (lv_at hl 1 rfl) ?_
  refine lv_iconst (v := nI 3) hx hb dL_act_65 (by decide +kernel) ?_
  refine lv_icmp_ne (tgt := 80) hx hb dL_act_66 (by decide) (fun _ => ?_) (fun c9 => absurd c9 (by decide +kernel))
  refine lv_iload_n hx hb dL_act_80 rfl (lv_at hl 1 rfl) ?_
  refine lv_iconst (v := nI 4) hx hb dL_act_81 (by decide +kernel) ?_
  refine lv_icmp_ne (tgt := 96) hx hb dL_act_82 (by decide) (fun _ => ?_) (fun c9 => absurd c9 (by decide +kernel))
  refine lv_iload_n hx hb dL_act_96 rfl (lv_at hl 1 rfl) ?_
  refine lv_iconst (v := nI 5) hx hb dL_act_97 (by decide +kernel) ?_
  refine lv_icmp_ne (tgt := 112) hx hb dL_act_98 (by decide) (fun _ => ?_) (fun c9 => absurd c9 (by decide +kernel))
  refine lv_iload_n hx hb dL_act_112 rfl (lv_at hl 1 rfl) ?_
  refine lv_bipush (v := nI 6) hx hb dL_act_113 (by decide +kernel) ?_
  refine lv_icmp_ne (tgt := 136) hx hb dL_act_115 (by decide) (fun _ => ?_) (fun c9 => absurd c9 (by decide +kernel))
  refine lv_iload_n hx hb dL_act_136 rfl (lv_at hl 1 rfl) ?_
  refine lv_bipush (v := nI 7) hx hb dL_act_137 (by decide +kernel) ?_
  refine lv_icmp_ne (tgt := 160) hx hb dL_act_139 (by decide) (fun _ => ?_) (fun c9 => absurd c9 (by decide +kernel))
  refine lv_iload_n hx hb dL_act_160 rfl (lv_at hl 1 rfl) ?_
  refine lv_bipush (v := nI 8) hx hb dL_act_161 (by decide +kernel) ?_
  refine lv_icmp_ne (tgt := 183) hx hb dL_act_163 (by decide) (fun _ => ?_) (fun c9 => absurd c9 (by decide +kernel))
  refine lv_iload_n hx hb dL_act_183 rfl (lv_at hl 1 rfl) ?_
  refine lv_bipush (v := nI 9) hx hb dL_act_184 (by decide +kernel) ?_
  refine lv_icmp_ne (tgt := 217) hx hb dL_act_186 (by decide) (fun _ => ?_) (fun c9 => absurd c9 (by decide +kernel))
  refine lv_iload_n hx hb dL_act_217 rfl (lv_at hl 1 rfl) ?_
  refine lv_bipush (v := nI 10) hx hb dL_act_218 (by decide +kernel) ?_
  refine lv_icmp_ne (tgt := 232) hx hb dL_act_220 (by decide) (fun _ => ?_) (fun c9 => absurd c9 (by decide +kernel))
  refine lv_iload_n hx hb dL_act_232 rfl (lv_at hl 1 rfl) ?_
  refine lv_bipush (v := nI 11) hx hb dL_act_233 (by decide +kernel) ?_
  refine lv_icmp_ne (tgt := 247) hx hb dL_act_235 (by decide) (fun _ => ?_) (fun c9 => absurd c9 (by decide +kernel))
  refine lv_iload_n hx hb dL_act_247 rfl (lv_at hl 1 rfl) ?_
  refine lv_bipush (v := nI 12) hx hb dL_act_248 (by decide +kernel) ?_
  refine lv_icmp_ne (tgt := 262) hx hb dL_act_250 (by decide) (fun _ => ?_) (fun c9 => absurd c9 (by decide +kernel))
  refine lv_iload_n hx hb dL_act_262 rfl (lv_at hl 1 rfl) ?_
  refine lv_bipush (v := nI 13) hx hb dL_act_263 (by decide +kernel) ?_
  refine lv_icmp_ne (tgt := 276) hx hb dL_act_265 (by decide) (fun _ => ?_) (fun c9 => absurd c9 (by decide +kernel))
  refine lv_iload_n hx hb dL_act_276 rfl (lv_at hl 1 rfl) ?_
  refine lv_bipush (v := nI 14) hx hb dL_act_277 (by decide +kernel) ?_
  refine lv_icmp_ne (tgt := 290) hx hb dL_act_279 (by decide) (fun _ => ?_) (fun c9 => absurd c9 (by decide +kernel))
  refine lv_iload_n hx hb dL_act_290 rfl (lv_at hl 1 rfl) ?_
  refine lv_bipush (v := nI 15) hx hb dL_act_291 (by decide +kernel) ?_
  refine lv_icmp_ne (tgt := 304) hx hb dL_act_293 (by decide) (fun _ => ?_) (fun c9 => absurd c9 (by decide +kernel))
  refine lv_iload_n hx hb dL_act_304 rfl (lv_at hl 1 rfl) ?_
  refine lv_bipush (v := nI 16) hx hb dL_act_305 (by decide +kernel) ?_
  refine lv_icmp_ne (tgt := 318) hx hb dL_act_307 (by decide) (fun _ => ?_) (fun c9 => absurd c9 (by decide +kernel))
  refine lv_iload_n hx hb dL_act_318 rfl (lv_at hl 1 rfl) ?_
  refine lv_bipush (v := nI 17) hx hb dL_act_319 (by decide +kernel) ?_
  refine lv_icmp_ne (tgt := 333) hx hb dL_act_321 (by decide) (fun c9 => absurd rfl c9) (fun _ => ?_)
  exact kk
theorem ac_18 (hx : p.tables.exec = Jvm.exec) (hb : c.code = cL_act) (hl : lv_has ls 7 ((0, v0) :: (1, .int (nI 18)) :: lt)) (kk : W p l e R s m args below meth c H locs cells slots Q (F0 m 339 ls [])) : W p l e R s m args below meth c H locs cells slots Q (F0 m 0 ls []) := by
  refine lv_iload_n hx hb dL_act_0 rfl (lv_at hl 1 rfl) ?_
  refine lv_if_ne (tgt := 17) hx hb dL_act_1 (by decide) (fun _ => ?_) (fun c9 => absurd c9 (by decide +kernel))
  refine lv_iload_n hx hb dL_act_17 rfl (lv_at hl 1 rfl) ?_
  refine lv_iconst (v := nI 1) hx hb dL_act_18 (by decide +kernel) ?_
  refine lv_icmp_ne (tgt := 31) hx hb dL_act_19 (by decide) (fun _ => ?_) (fun c9 => absurd c9 (by decide +kernel))
  refine lv_iload_n hx hb dL_act_31 rfl (lv_at hl 1 rfl) ?_
  refine lv_iconst (v := nI 2) hx hb dL_act_32 (by decide +kernel) ?_
  refine lv_icmp_ne (tgt := 64) hx hb dL_act_33 (by decide) (fun _ => ?_) (fun c9 => absurd c9 (by decide +kernel))
  refine lv_iload_n hx hb dL_act_64 rfl (lv_at hl 1 rfl) ?_
  refine lv_iconst (v := nI 3) hx hb dL_act_65 (by decide +kernel) ?_
  refine lv_icmp_ne (tgt := 80) hx hb dL_act_66 (by decide) (fun _ => ?_) (fun c9 => absurd c9 (by decide +kernel))
  refine lv_iload_n hx hb dL_act_80 rfl (lv_at hl 1 rfl) ?_
  refine lv_iconst (v := nI 4) hx hb dL_act_81 (by decide +kernel) ?_
  refine lv_icmp_ne (tgt := 96) hx hb dL_act_82 (by decide) (fun _ => ?_) (fun c9 => absurd c9 (by decide +kernel))
  refine lv_iload_n hx hb dL_act_96 rfl (lv_at hl 1 rfl) ?_
  refine lv_iconst (v := nI 5) hx hb dL_act_97 (by decide +kernel) ?_
  refine lv_icmp_ne (tgt := 112) hx hb dL_act_98 (by decide) (fun _ => ?_) (fun c9 => absurd c9 (by decide +kernel))
  refine lv_iload_n hx hb dL_act_112 rfl (lv_at hl 1 rfl) ?_
  refine lv_bipush (v := nI 6) hx hb dL_act_113 (by decide +kernel) ?_
  refine lv_icmp_ne (tgt := 136) hx hb dL_act_115 (by decide) (fun _ => ?_) (fun c9 => absurd c9 (by decide +kernel))
  refine lv_iload_n hx hb dL_act_136 rfl (lv_at hl 1 rfl) ?_
  refine lv_bipush (v := nI 7) hx hb dL_act_137 (by decide +kernel) ?_
  refine lv_icmp_ne (tgt := 160) hx hb dL_act_139 (by decide) (fun _ => ?_) (fun c9 => absurd c9 (by decide +kernel))
  refine lv_iload_n hx hb dL_act_160 rfl (lv_at hl 1 rfl) ?_
  refine lv_bipush (v := nI 8) hx hb dL_act_161 (by decide +kernel) ?_
  refine lv_icmp_ne (tgt := 183) hx hb dL_act_163 (by decide) (fun _ => ?_) (fun c9 => absurd c9 (by decide +kernel))
  refine lv_iload_n hx hb dL_act_183 rfl (lv_at hl 1 rfl) ?_
  refine lv_bipush (v := nI 9) hx hb dL_act_184 (by decide +kernel) ?_
  refine lv_icmp_ne (tgt := 217) hx hb dL_act_186 (by decide) (fun _ => ?_) (fun c9 => absurd c9 (by decide +kernel))
  refine lv_iload_n hx hb dL_act_217 rfl (lv_at hl 1 rfl) ?_
  refine lv_bipush (v := nI 10) hx hb dL_act_218 (by decide +kernel) ?_
  refine lv_icmp_ne (tgt := 232) hx hb dL_act_220 (by decide) (fun _ => ?_) (fun c9 => absurd c9 (by decide +kernel))
  refine lv_iload_n hx hb dL_act_232 rfl (lv_at hl 1 rfl) ?_
  refine lv_bipush (v := nI 11) hx hb dL_act_233 (by decide +kernel) ?_
  refine lv_icmp_ne (tgt := 247) hx hb dL_act_235 (by decide) (fun _ => ?_) (fun c9 => absurd c9 (by decide +kernel))
  refine lv_iload_n hx hb dL_act_247 rfl (lv_at hl 1 rfl) ?_
  refine lv_bipush (v := nI 12) hx hb dL_act_248 (by decide +kernel) ?_
  refine lv_icmp_ne (tgt := 262) hx hb dL_act_250 (by decide) (fun _ => ?_) (fun c9 => absurd c9 (by decide +kernel))
  refine lv_iload_n hx hb dL_act_262 rfl (lv_at hl 1 rfl) ?_
  refine lv_bipush (v := nI 13) hx hb dL_act_263 (by decide +kernel) ?_
  refine lv_icmp_ne (tgt := 276) hx hb dL_act_265 (by decide) (fun _ => ?_) (fun c9 => absurd c9 (by decide +kernel))
  refine lv_iload_n hx hb dL_act_276 rfl (lv_at hl 1 rfl) ?_
  refine lv_bipush (v := nI 14) hx hb dL_act_277 (by decide +kernel) ?_
  refine lv_icmp_ne (tgt := 290) hx hb dL_act_279 (by decide) (fun _ => ?_) (fun c9 => absurd c9 (by decide +kernel))
  refine lv_iload_n hx hb dL_act_290 rfl (lv_at hl 1 rfl) ?_
  refine lv_bipush (v := nI 15) hx hb dL_act_291 (by decide +kernel) ?_
  refine lv_icmp_ne (tgt := 304) hx hb dL_act_293 (by decide) (fun _ => ?_) (fun c9 => absurd c9 (by decide +kernel))
  refine lv_iload_n hx hb dL_act_304 rfl (lv_at hl 1 rfl) ?_
  refine lv_bipush (v := nI 16) hx hb dL_act_305 (by decide +kernel) ?_
  refine lv_icmp_ne (tgt := 318) hx hb dL_act_307 (by decide) (fun _ => ?_) (fun c9 => absurd c9 (by decide +kernel))
  refine lv_iload_n hx hb dL_act_318 rfl (lv_at hl 1 rfl) ?_
  refine lv_bipush (v := nI 17) hx hb dL_act_319 (by decide +kernel) ?_
  refine lv_icmp_ne (tgt := 333) hx hb dL_act_321 (by decide) (fun _ => ?_) (fun c9 => absurd c9 (by decide +kernel))
  refine lv_iload_n hx hb dL_act_333 rfl (lv_at hl 1 rfl) ?_
  refine lv_bipush (v := nI 18) hx hb dL_act_334 (by decide +kernel) ?_
  refine lv_icmp_ne (tgt := 347) hx hb dL_act_336 (by decide) (fun c9 => absurd rfl c9) (fun _ => ?_)
  exact kk
theorem ac_19 (hx : p.tables.exec = Jvm.exec) (hb : c.code = cL_act) (hl : lv_has ls 7 ((0, v0) :: (1, .int (nI 19)) :: lt)) (kk : W p l e R s m args below meth c H locs cells slots Q (F0 m 353 ls [])) : W p l e R s m args below meth c H locs cells slots Q (F0 m 0 ls []) := by
  refine lv_iload_n hx hb dL_act_0 rfl (lv_at hl 1 rfl) ?_
  refine lv_if_ne (tgt := 17) hx hb dL_act_1 (by decide) (fun _ => ?_) (fun c9 => absurd c9 (by decide +kernel))
  refine lv_iload_n hx hb dL_act_17 rfl (lv_at hl 1 rfl) ?_
  refine lv_iconst (v := nI 1) hx hb dL_act_18 (by decide +kernel) ?_
  refine lv_icmp_ne (tgt := 31) hx hb dL_act_19 (by decide) (fun _ => ?_) (fun c9 => absurd c9 (by decide +kernel))
  refine lv_iload_n hx hb dL_act_31 rfl (lv_at hl 1 rfl) ?_
  refine lv_iconst (v := nI 2) hx hb dL_act_32 (by decide +kernel) ?_
  refine lv_icmp_ne (tgt := 64) hx hb dL_act_33 (by decide) (fun _ => ?_) (fun c9 => absurd c9 (by decide +kernel))
  refine lv_iload_n hx hb dL_act_64 rfl (lv_at hl 1 rfl) ?_
  refine lv_iconst (v := nI 3) hx hb dL_act_65 (by decide +kernel) ?_
  refine lv_icmp_ne (tgt := 80) hx hb dL_act_66 (by decide) (fun _ => ?_) (fun c9 => absurd c9 (by decide +kernel))
  refine lv_iload_n hx hb dL_act_80 rfl (lv_at hl 1 rfl) ?_
  refine lv_iconst (v := nI 4) hx hb dL_act_81 (by decide +kernel) ?_
  refine lv_icmp_ne (tgt := 96) hx hb dL_act_82 (by decide) (fun _ => ?_) (fun c9 => absurd c9 (by decide +kernel))
  refine lv_iload_n hx hb dL_act_96 rfl (lv_at hl 1 rfl) ?_
  refine lv_iconst (v := nI 5) hx hb dL_act_97 (by decide +kernel) ?_
  refine lv_icmp_ne (tgt := 112) hx hb dL_act_98 (by decide) (fun _ => ?_) (fun c9 => absurd c9 (by decide +kernel))
  refine lv_iload_n hx hb dL_act_112 rfl (lv_at hl 1 rfl) ?_
  refine lv_bipush (v := nI 6) hx hb dL_act_113 (by decide +kernel) ?_
  refine lv_icmp_ne (tgt := 136) hx hb dL_act_115 (by decide) (fun _ => ?_) (fun c9 => absurd c9 (by decide +kernel))
  refine lv_iload_n hx hb dL_act_136 rfl (lv_at hl 1 rfl) ?_
  refine lv_bipush (v := nI 7) hx hb dL_act_137 (by decide +kernel) ?_
  refine lv_icmp_ne (tgt := 160) hx hb dL_act_139 (by decide) (fun _ => ?_) (fun c9 => absurd c9 (by decide +kernel))
  refine lv_iload_n hx hb dL_act_160 rfl (lv_at hl 1 rfl) ?_
  refine lv_bipush (v := nI 8) hx hb dL_act_161 (by decide +kernel) ?_
  refine lv_icmp_ne (tgt := 183) hx hb dL_act_163 (by decide) (fun _ => ?_) (fun c9 => absurd c9 (by decide +kernel))
  refine lv_iload_n hx hb dL_act_183 rfl (lv_at hl 1 rfl) ?_
  refine lv_bipush (v := nI 9) hx hb dL_act_184 (by decide +kernel) ?_
  refine lv_icmp_ne (tgt := 217) hx hb dL_act_186 (by decide) (fun _ => ?_) (fun c9 => absurd c9 (by decide +kernel))
  refine lv_iload_n hx hb dL_act_217 rfl (lv_at hl 1 rfl) ?_
  refine lv_bipush (v := nI 10) hx hb dL_act_218 (by decide +kernel) ?_
  refine lv_icmp_ne (tgt := 232) hx hb dL_act_220 (by decide) (fun _ => ?_) (fun c9 => absurd c9 (by decide +kernel))
  refine lv_iload_n hx hb dL_act_232 rfl (lv_at hl 1 rfl) ?_
  refine lv_bipush (v := nI 11) hx hb dL_act_233 (by decide +kernel) ?_
  refine lv_icmp_ne (tgt := 247) hx hb dL_act_235 (by decide) (fun _ => ?_) (fun c9 => absurd c9 (by decide +kernel))
  refine lv_iload_n hx hb dL_act_247 rfl (lv_at hl 1 rfl) ?_
  refine lv_bipush (v := nI 12) hx hb dL_act_248 (by decide +kernel) ?_
  refine lv_icmp_ne (tgt := 262) hx hb dL_act_250 (by decide) (fun _ => ?_) (fun c9 => absurd c9 (by decide +kernel))
  refine lv_iload_n hx hb dL_act_262 rfl (lv_at hl 1 rfl) ?_
  refine lv_bipush (v := nI 13) hx hb dL_act_263 (by decide +kernel) ?_
  refine lv_icmp_ne (tgt := 276) hx hb dL_act_265 (by decide) (fun _ => ?_) (fun c9 => absurd c9 (by decide +kernel))
  refine lv_iload_n hx hb dL_act_276 rfl (lv_at hl 1 rfl) ?_
  refine lv_bipush (v := nI 14) hx hb dL_act_277 (by decide +kernel) ?_
  refine lv_icmp_ne (tgt := 290) hx hb dL_act_279 (by decide) (fun _ => ?_) (fun c9 => absurd c9 (by decide +kernel))
  refine lv_iload_n hx hb dL_act_290 rfl (lv_at hl 1 rfl) ?_
  refine lv_bipush (v := nI 15) hx hb dL_act_291 (by decide +kernel) ?_
  refine lv_icmp_ne (tgt := 304) hx hb dL_act_293 (by decide) (fun _ => ?_) (fun c9 => absurd c9 (by decide +kernel))
  refine lv_iload_n hx hb dL_act_304 rfl (lv_at hl 1 rfl) ?_
  refine lv_bipush (v := nI 16) hx hb dL_act_305 (by decide +kernel) ?_
  refine lv_icmp_ne (tgt := 318) hx hb dL_act_307 (by decide) (fun _ => ?_) (fun c9 => absurd c9 (by decide +kernel))
  refine lv_iload_n hx hb dL_act_318 rfl (lv_at hl 1 rfl) ?_
  refine lv_bipush (v := nI 17) hx hb dL_act_319 (by decide +kernel) ?_
  refine lv_icmp_ne (tgt := 333) hx hb dL_act_321 (by decide) (fun _ => ?_) (fun c9 => absurd c9 (by decide +kernel))
  refine lv_iload_n hx hb dL_act_333 rfl (lv_at hl 1 rfl) ?_
  refine lv_bipush (v := nI 18) hx hb dL_act_334 (by decide +kernel) ?_
  refine lv_icmp_ne (tgt := 347) hx hb dL_act_336 (by decide) (fun _ => ?_) (fun c9 => absurd c9 (by decide +kernel))
  refine lv_iload_n hx hb dL_act_347 rfl (lv_at hl 1 rfl) ?_
  refine lv_bipush (v := nI 19) hx hb dL_act_348 (by decide +kernel) ?_
  refine lv_icmp_ne (tgt := 370) hx hb dL_act_350 (by decide) (fun c9 => absurd rfl c9) (fun _ => ?_)
  exact kk
theorem ac_20 (hx : p.tables.exec = Jvm.exec) (hb : c.code = cL_act) (hl : lv_has ls 7 ((0, v0) :: (1, .int (nI 20)) :: lt)) (kk : W p l e R s m args below meth c H locs cells slots Q (F0 m 376 ls [])) : W p l e R s m args below meth c H locs cells slots Q (F0 m 0 ls []) := by
  refine lv_iload_n hx hb dL_act_0 rfl (lv_at hl 1 rfl) ?_
  refine lv_if_ne (tgt := 17) hx hb dL_act_1 (by decide) (fun _ => ?_) (fun c9 => absurd c9 (by decide +kernel))
  refine lv_iload_n hx hb dL_act_17 rfl (lv_at hl 1 rfl) ?_
  refine lv_iconst (v := nI 1) hx hb dL_act_18 (by decide +kernel) ?_
  refine lv_icmp_ne (tgt := 31) hx hb dL_act_19 (by decide) (fun _ => ?_) (fun c9 => absurd c9 (by decide +kernel))
  refine lv_iload_n hx hb dL_act_31 rfl (lv_at hl 1 rfl) ?_
  refine lv_iconst (v := nI 2) hx hb dL_act_32 (by decide +kernel) ?_
  refine lv_icmp_ne (tgt := 64) hx hb dL_act_33 (by decide) (fun _ => ?_) (fun c9 => absurd c9 (by decide +kernel))
  refine lv_iload_n hx hb dL_act_64 rfl (lv_at hl 1 rfl) ?_
  refine lv_iconst (v := nI 3) hx hb dL_act_65 (by decide +kernel) ?_
  refine lv_icmp_ne (tgt := 80) hx hb dL_act_66 (by decide) (fun _ => ?_) (fun c9 => absurd c9 (by decide +kernel))
  refine lv_iload_n hx hb dL_act_80 rfl (lv_at hl 1 rfl) ?_
  refine lv_iconst (v := nI 4) hx hb dL_act_81 (by decide +kernel) ?_
  refine lv_icmp_ne (tgt := 96) hx hb dL_act_82 (by decide) (fun _ => ?_) (fun c9 => absurd c9 (by decide +kernel))
  refine lv_iload_n hx hb dL_act_96 rfl (lv_at hl 1 rfl) ?_
  refine lv_iconst (v := nI 5) hx hb dL_act_97 (by decide +kernel) ?_
  refine lv_icmp_ne (tgt := 112) hx hb dL_act_98 (by decide) (fun _ => ?_) (fun c9 => absurd c9 (by decide +kernel))
  refine lv_iload_n hx hb dL_act_112 rfl (lv_at hl 1 rfl) ?_
  refine lv_bipush (v := nI 6) hx hb dL_act_113 (by decide +kernel) ?_
  refine lv_icmp_ne (tgt := 136) hx hb dL_act_115 (by decide) (fun _ => ?_) (fun c9 => absurd c9 (by decide +kernel))
  refine lv_iload_n hx hb dL_act_136 rfl (lv_at hl 1 rfl) ?_
  refine lv_bipush (v := nI 7) hx hb dL_act_137 (by decide +kernel) ?_
  refine lv_icmp_ne (tgt := 160) hx hb dL_act_139 (by decide) (fun _ => ?_) (fun c9 => absurd c9 (by decide +kernel))
  refine lv_iload_n hx hb dL_act_160 rfl (lv_at hl 1 rfl) ?_
  refine lv_bipush (v := nI 8) hx hb dL_act_161 (by decide +kernel) ?_
  refine lv_icmp_ne (tgt := 183) hx hb dL_act_163 (by decide) (fun _ => ?_) (fun c9 => absurd c9 (by decide +kernel))
  refine lv_iload_n hx hb dL_act_183 rfl (lv_at hl 1 rfl) ?_
  refine lv_bipush (v := nI 9) hx hb dL_act_184 (by decide +kernel) ?_
  refine lv_icmp_ne (tgt := 217) hx hb dL_act_186 (by decide) (fun _ => ?_) (fun c9 => absurd c9 (by decide +kernel))
  refine lv_iload_n hx hb dL_act_217 rfl (lv_at hl 1 rfl) ?_
  refine lv_bipush (v := nI 10) hx hb dL_act_218 (by decide +kernel) ?_
  refine lv_icmp_ne (tgt := 232) hx hb dL_act_220 (by decide) (fun _ => ?_) (fun c9 => absurd c9 (by decide +kernel))
  refine lv_iload_n hx hb dL_act_232 rfl (lv_at hl 1 rfl) ?_
  refine lv_bipush (v := nI 11) hx hb dL_act_233 (by decide +kernel) ?_
  refine lv_icmp_ne (tgt := 247) hx hb dL_act_235 (by decide) (fun _ => ?_) (fun c9 => absurd c9 (by decide +kernel))
  refine lv_iload_n hx hb dL_act_247 rfl (lv_at hl 1 rfl) ?_
  refine lv_bipush (v := nI 12) hx hb dL_act_248 (by decide +kernel) ?_
  refine lv_icmp_ne (tgt := 262) hx hb dL_act_250 (by decide) (fun _ => ?_) (fun c9 => absurd c9 (by decide +kernel))
  refine lv_iload_n hx hb dL_act_262 rfl (lv_at hl 1 rfl) ?_
  refine lv_bipush (v := nI 13) hx hb dL_act_263 (by decide +kernel) ?_
  refine lv_icmp_ne (tgt := 276) hx hb dL_act_265 (by decide) (fun _ => ?_) (fun c9 => absurd c9 (by decide +kernel))
  refine lv_iload_n hx hb dL_act_276 rfl (lv_at hl 1 rfl) ?_
  refine lv_bipush (v := nI 14) hx hb dL_act_277 (by decide +kernel) ?_
  refine lv_icmp_ne (tgt := 290) hx hb dL_act_279 (by decide) (fun _ => ?_) (fun c9 => absurd c9 (by decide +kernel))
  refine lv_iload_n hx hb dL_act_290 rfl (lv_at hl 1 rfl) ?_
  refine lv_bipush (v := nI 15) hx hb dL_act_291 (by decide +kernel) ?_
  refine lv_icmp_ne (tgt := 304) hx hb dL_act_293 (by decide) (fun _ => ?_) (fun c9 => absurd c9 (by decide +kernel))
  refine lv_iload_n hx hb dL_act_304 rfl (lv_at hl 1 rfl) ?_
  refine lv_bipush (v := nI 16) hx hb dL_act_305 (by decide +kernel) ?_
  refine lv_icmp_ne (tgt := 318) hx hb dL_act_307 (by decide) (fun _ => ?_) (fun c9 => absurd c9 (by decide +kernel))
  refine lv_iload_n hx hb dL_act_318 rfl (lv_at hl 1 rfl) ?_
  refine lv_bipush (v := nI 17) hx hb dL_act_319 (by decide +kernel) ?_
  refine lv_icmp_ne (tgt := 333) hx hb dL_act_321 (by decide) (fun _ => ?_) (fun c9 => absurd c9 (by decide +kernel))
  refine lv_iload_n hx hb dL_act_333 rfl (lv_at hl 1 rfl) ?_
  refine lv_bipush (v := nI 18) hx hb dL_act_334 (by decide +kernel) ?_
  refine lv_icmp_ne (tgt := 347) hx hb dL_act_336 (by decide) (fun _ => ?_) (fun c9 => absurd c9 (by decide +kernel))
  refine lv_iload_n hx hb dL_act_347 rfl (lv_at hl 1 rfl) ?_
  refine lv_bipush (v := nI 19) hx hb dL_act_348 (by decide +kernel) ?_
  refine lv_icmp_ne (tgt := 370) hx hb dL_act_350 (by decide) (fun _ => ?_) (fun c9 => absurd c9 (by decide +kernel))
  refine lv_iload_n hx hb dL_act_370 rfl (lv_at hl 1 rfl) ?_
  refine lv_bipush (v := nI 20) hx hb dL_act_371 (by decide +kernel) ?_
  refine lv_icmp_ne (tgt := 385) hx hb dL_act_373 (by decide) (fun c9 => absurd rfl c9) (fun _ => ?_)
  exact kk
theorem ac_21 (hx : p.tables.exec = Jvm.exec) (hb : c.code = cL_act) (hl : lv_has ls 7 ((0, v0) :: (1, .int (nI 21)) :: lt)) (kk : W p l e R s m args below meth c H locs cells slots Q (F0 m 391 ls [])) : W p l e R s m args below meth c H locs cells slots Q (F0 m 0 ls []) := by
  refine lv_iload_n hx hb dL_act_0 rfl (lv_at hl 1 rfl) ?_
  refine lv_if_ne (tgt := 17) hx hb dL_act_1 (by decide) (fun _ => ?_) (fun c9 => absurd c9 (by decide +kernel))
  refine lv_iload_n hx hb dL_act_17 rfl (lv_at hl 1 rfl) ?_
  refine lv_iconst (v := nI 1) hx hb dL_act_18 (by decide +kernel) ?_
  refine lv_icmp_ne (tgt := 31) hx hb dL_act_19 (by decide) (fun _ => ?_) (fun c9 => absurd c9 (by decide +kernel))
  refine lv_iload_n hx hb dL_act_31 rfl (lv_at hl 1 rfl) ?_
  refine lv_iconst (v := nI 2) hx hb dL_act_32 (by decide +kernel) ?_
  refine lv_icmp_ne (tgt := 64) hx hb dL_act_33 (by decide) (fun _ => ?_) (fun c9 => absurd c9 (by decide +kernel))
  refine lv_iload_n hx hb dL_act_64 rfl (lv_at hl 1 rfl) ?_
  refine lv_iconst (v := nI 3) hx hb dL_act_65 (by decide +kernel) ?_
  refine lv_icmp_ne (tgt := 80) hx hb dL_act_66 (by decide) (fun _ => ?_) (fun c9 => absurd c9 (by decide +kernel))
  refine lv_iload_n hx hb dL_act_80 rfl (lv_at hl 1 rfl) ?_
  refine lv_iconst (v := nI 4) hx hb dL_act_81 (by decide +kernel) ?_
  refine lv_icmp_ne (tgt := 96) hx hb dL_act_82 (by decide) (fun _ => ?_) (fun c9 => absurd c9 (by decide +kernel))
  refine lv_iload_n hx hb dL_act_96 rfl (lv_at hl 1 rfl) ?_
  refine lv_iconst (v := nI 5) hx hb dL_act_97 (by decide +kernel) ?_
  refine lv_icmp_ne (tgt := 112) hx hb dL_act_98 (by decide) (fun _ => ?_) (fun c9 => absurd c9 (by decide +kernel))
  refine lv_iload_n hx hb dL_act_112 rfl (lv_at hl 1 rfl) ?_
  refine lv_bipush (v := nI 6) hx hb dL_act_113 (by decide +kernel) ?_
  refine lv_icmp_ne (tgt := 136) hx hb dL_act_115 (by decide) (fun _ => ?_) (fun c9 => absurd c9 (by decide +kernel))
  refine lv_iload_n hx hb dL_act_136 rfl (lv_at hl 1 rfl) ?_
  refine lv_bipush (v := nI 7) hx hb dL_act_137 (by decide +kernel) ?_
  refine lv_icmp_ne (tgt := 160) hx hb dL_act_139 (by decide) (fun _ => ?_) (fun c9 => absurd c9 (by decide +kernel))
  refine lv_iload_n hx hb dL_act_160 rfl (lv_at hl 1 rfl) ?_
  refine lv_bipush (v := nI 8) hx hb dL_act_161 (by decide +kernel) ?_
  refine lv_icmp_ne (tgt := 183) hx hb dL_act_163 (by decide) (fun _ => ?_) (fun c9 => absurd c9 (by decide +kernel))
  refine lv_iload_n hx hb dL_act_183 rfl (lv_at hl 1 rfl) ?_
  refine lv_bipush (v := nI 9) hx hb dL_act_184 (by decide +kernel) ?_
  refine lv_icmp_ne (tgt := 217) hx hb dL_act_186 (by decide) (fun _ => ?_) (fun c9 => absurd c9 (by decide +kernel))
  refine lv_iload_n hx hb dL_act_217 rfl (lv_at hl 1 rfl) ?_
  refine lv_bipush (v := nI 10) hx hb dL_act_218 (by decide +kernel) ?_
  refine lv_icmp_ne (tgt := 232) hx hb dL_act_220 (by decide) (fun _ => ?_) (fun c9 => absurd c9 (by decide +kernel))
  refine lv_iload_n hx hb dL_act_232 rfl (lv_at hl 1 rfl) ?_
  refine lv_bipush (v := nI 11) hx hb dL_act_233 (by decide +kernel) ?_
  refine lv_icmp_ne (tgt := 247) hx hb dL_act_235 (by decide) (fun _ => ?_) (fun c9 => absurd c9 (by decide +kernel))
  refine lv_iload_n hx hb dL_act_247 rfl (lv_at hl 1 rfl) ?_
  refine lv_bipush (v := nI 12) hx hb dL_act_248 (by decide +kernel) ?_
  refine lv_icmp_ne (tgt := 262) hx hb dL_act_250 (by decide) (fun _ => ?_) (fun c9 => absurd c9 (by decide +kernel))
  refine lv_iload_n hx hb dL_act_262 rfl (lv_at hl 1 rfl) ?_
  refine lv_bipush (v := nI 13) hx hb dL_act_263 (by decide +kernel) ?_
  refine lv_icmp_ne (tgt := 276) hx hb dL_act_265 (by decide) (fun _ => ?_) (fun c9 => absurd c9 (by decide +kernel))
  refine lv_iload_n hx hb dL_act_276 rfl (lv_at hl 1 rfl) ?_
  refine lv_bipush (v := nI 14) hx hb dL_act_277 (by decide +kernel) ?_
  refine lv_icmp_ne (tgt := 290) hx hb dL_act_279 (by decide) (fun _ => ?_) (fun c9 => absurd c9 (by decide +kernel))
  refine lv_iload_n hx hb dL_act_290 rfl (lv_at hl 1 rfl) ?_
  refine lv_bipush (v := nI 15) hx hb dL_act_291 (by decide +kernel) ?_
  refine lv_icmp_ne (tgt := 304) hx hb dL_act_293 (by decide) (fun _ => ?_) (fun c9 => absurd c9 (by decide +kernel))
  refine lv_iload_n hx hb dL_act_304 rfl (lv_at hl 1 rfl) ?_
  refine lv_bipush (v := nI 16) hx hb dL_act_305 (by decide +kernel) ?_
  refine lv_icmp_ne (tgt := 318) hx hb dL_act_307 (by decide) (fun _ => ?_) (fun c9 => absurd c9 (by decide +kernel))
  refine lv_iload_n hx hb dL_act_318 rfl (lv_at hl 1 rfl) ?_
  refine lv_bipush (v := nI 17) hx hb dL_act_319 (by decide +kernel) ?_
  refine lv_icmp_ne (tgt := 333) hx hb dL_act_321 (by decide) (fun _ => ?_) (fun c9 => absurd c9 (by decide +kernel))
  refine lv_iload_n hx hb dL_act_333 rfl (lv_at hl 1 rfl) ?_
  refine lv_bipush (v := nI 18) hx hb dL_act_334 (by decide +kernel) ?_
  refine lv_icmp_ne (tgt := 347) hx hb dL_act_336 (by decide) (fun _ => ?_) (fun c9 => absurd c9 (by decide +kernel))
  refine lv_iload_n hx hb dL_act_347 rfl (lv_at hl 1 rfl) ?_
  refine lv_bipush (v := nI 19) hx hb dL_act_348 (by decide +kernel) ?_
  refine lv_icmp_ne (tgt := 370) hx hb dL_act_350 (by decide) (fun _ => ?_) (fun c9 => absurd c9 (by decide +kernel))
  refine lv_iload_n hx hb dL_act_370 rfl (lv_at hl 1 rfl) ?_
  refine lv_bipush (v := nI 20) hx hb dL_act_371 (by decide +kernel) ?_
  refine lv_icmp_ne (tgt := 385) hx hb dL_act_373 (by decide) (fun _ => ?_) (fun c9 => absurd c9 (by decide +kernel))
  refine lv_iload_n hx hb dL_act_385 rfl (lv_at hl 1 rfl) ?_
  refine lv_bipush (v := nI 21) hx hb dL_act_386 (by decide +kernel) ?_
  refine lv_icmp_ne (tgt := 399) hx hb dL_act_388 (by decide) (fun c9 => absurd rfl c9) (fun _ => ?_)
  exact kk
theorem ac_22 (hx : p.tables.exec = Jvm.exec) (hb : c.code = cL_act) (hl : lv_has ls 7 ((0, v0) :: (1, .int (nI 22)) :: lt)) (kk : W p l e R s m args below meth c H locs cells slots Q (F0 m 405 ls [])) : W p l e R s m args below meth c H locs cells slots Q (F0 m 0 ls []) := by
  refine lv_iload_n hx hb dL_act_0 rfl (lv_at hl 1 rfl) ?_
  refine lv_if_ne (tgt := 17) hx hb dL_act_1 (by decide) (fun _ => ?_) (fun c9 => absurd c9 (by decide +kernel))
  refine lv_iload_n hx hb dL_act_17 rfl (lv_at hl 1 rfl) ?_
  refine lv_iconst (v := nI 1) hx hb dL_act_18 (by decide +kernel) ?_
  refine lv_icmp_ne (tgt := 31) hx hb dL_act_19 (by decide) (fun _ => ?_) (fun c9 => absurd c9 (by decide +kernel))
  refine lv_iload_n hx hb dL_act_31 rfl (lv_at hl 1 rfl) ?_
  refine lv_iconst (v := nI 2) hx hb dL_act_32 (by decide +kernel) ?_
  refine lv_icmp_ne (tgt := 64) hx hb dL_act_33 (by decide) (fun _ => ?_) (fun c9 => absurd c9 (by decide +kernel))
  refine lv_iload_n hx hb dL_act_64 rfl (lv_at hl 1 rfl) ?_
  refine lv_iconst (v := nI 3) hx hb dL_act_65 (by decide +kernel) ?_
  refine lv_icmp_ne (tgt := 80) hx hb dL_act_66 (by decide) (fun _ => ?_) (fun c9 => absurd c9 (by decide +kernel))
  refine lv_iload_n hx hb dL_act_80 rfl (lv_at hl 1 rfl) ?_
  refine lv_iconst (v := nI 4) hx hb dL_act_81 (by decide +kernel) ?_
  refine lv_icmp_ne (tgt := 96) hx hb dL_act_82 (by decide) (fun _ => ?_) (fun c9 => absurd c9 (by decide +kernel))
  refine lv_iload_n hx hb dL_act_96 rfl (lv_at hl 1 rfl) ?_
  refine lv_iconst (v := nI 5) hx hb dL_act_97 (by decide +kernel) ?_
  refine lv_icmp_ne (tgt := 112) hx hb dL_act_98 (by decide) (fun _ => ?_) (fun c9 => absurd c9 (by decide +kernel))
  refine lv_iload_n hx hb dL_act_112 rfl (lv_at hl 1 rfl) ?_
  refine lv_bipush (v := nI 6) hx hb dL_act_113 (by decide +kernel) ?_
  refine lv_icmp_ne (tgt := 136) hx hb dL_act_115 (by decide) (fun _ => ?_) (fun c9 => absurd c9 (by decide +kernel))
  refine lv_iload_n hx hb dL_act_136 rfl (lv_at hl 1 rfl) ?_
  refine lv_bipush (v := nI 7) hx hb dL_act_137 (by decide +kernel) ?_
  refine lv_icmp_ne (tgt := 160) hx hb dL_act_139 (by decide) (fun _ => ?_) (fun c9 => absurd c9 (by decide +kernel))
  refine lv_iload_n hx hb dL_act_160 rfl (lv_at hl 1 rfl) ?_
  refine lv_bipush (v := nI 8) hx hb dL_act_161 (by decide +kernel) ?_
  refine lv_icmp_ne (tgt := 183) hx hb dL_act_163 (by decide) (fun _ => ?_) (fun c9 => absurd c9 (by decide +kernel))
  refine lv_iload_n hx hb dL_act_183 rfl (lv_at hl 1 rfl) ?_
  refine lv_bipush (v := nI 9) hx hb dL_act_184 (by decide +kernel) ?_
  refine lv_icmp_ne (tgt := 217) hx hb dL_act_186 (by decide) (fun _ => ?_) (fun c9 => absurd c9 (by decide +kernel))
  refine lv_iload_n hx hb dL_act_217 rfl (lv_at hl 1 rfl) ?_
  refine lv_bipush (v := nI 10) hx hb dL_act_218 (by decide +kernel) ?_
  refine lv_icmp_ne (tgt := 232) hx hb dL_act_220 (by decide) (fun _ => ?_) (fun c9 => absurd c9 (by decide +kernel))
  refine lv_iload_n hx hb dL_act_232 rfl (lv_at hl 1 rfl) ?_
  refine lv_bipush (v := nI 11) hx hb dL_act_233 (by decide +kernel) ?_
  refine lv_icmp_ne (tgt := 247) hx hb dL_act_235 (by decide) (fun _ => ?_) (fun c9 => absurd c9 (by decide +kernel))
  refine lv_iload_n hx hb dL_act_247 rfl (lv_at hl 1 rfl) ?_
  refine lv_bipush (v := nI 12) hx hb dL_act_248 (by decide +kernel) ?_
  refine lv_icmp_ne (tgt := 262) hx hb dL_act_250 (by decide) (fun _ => ?_) (fun c9 => absurd c9 (by decide +kernel))
  refine lv_iload_n hx hb dL_act_262 rfl (lv_at hl 1 rfl) ?_
  refine lv_bipush (v := nI 13) hx hb dL_act_263 (by decide +kernel) ?_
  refine lv_icmp_ne (tgt := 276) hx hb dL_act_265 (by decide) (fun _ => ?_) (fun c9 => absurd c9 (by decide +kernel))
  refine lv_iload_n hx hb dL_act_276 rfl (lv_at hl 1 rfl) ?_
  refine lv_bipush (v := nI 14) hx hb dL_act_277 (by decide +kernel) ?_
  refine lv_icmp_ne (tgt := 290) hx hb dL_act_279 (by decide) (fun _ => ?_) (fun c9 => absurd c9 (by decide +kernel))
  refine lv_iload_n hx hb dL_act_290 rfl (lv_at hl 1 rfl) ?_
  refine lv_bipush (v := nI 15) hx hb dL_act_291 (by decide +kernel) ?_
  refine lv_icmp_ne (tgt := 304) hx hb dL_act_293 (by decide) (fun _ => ?_) (fun c9 => absurd c9 (by decide +kernel))
  refine lv_iload_n hx hb dL_act_304 rfl (lv_at hl 1 rfl) ?_
  refine lv_bipush (v := nI 16) hx hb dL_act_305 (by decide +kernel) ?_
  refine lv_icmp_ne (tgt := 318) hx hb dL_act_307 (by decide) (fun _ => ?_) (fun c9 => absurd c9 (by decide +kernel))
  refine lv_iload_n hx hb dL_act_318 rfl (lv_at hl 1 rfl) ?_
  refine lv_bipush (v := nI 17) hx hb dL_act_319 (by decide +kernel) ?_
  refine lv_icmp_ne (tgt := 333) hx hb dL_act_321 (by decide) (fun _ => ?_) (fun c9 => absurd c9 (by decide +kernel))
  refine lv_iload_n hx hb dL_act_333 rfl (lv_at hl 1 rfl) ?_
  refine lv_bipush (v := nI 18) hx hb dL_act_334 (by decide +kernel) ?_
  refine lv_icmp_ne (tgt := 347) hx hb dL_act_336 (by decide) (fun _ => ?_) (fun c9 => absurd c9 (by decide +kernel))
  refine lv_iload_n hx hb dL_act_347 rfl (lv_at hl 1 rfl) ?_
  refine lv_bipush (v := nI 19) hx hb dL_act_348 (by decide +kernel) ?_
  refine lv_icmp_ne (tgt := 370) hx hb dL_act_350 (by decide) (fun _ => ?_) (fun c9 => absurd c9 (by decide +kernel))
  refine lv_iload_n hx hb dL_act_370 rfl (lv_at hl 1 rfl) ?_
  refine lv_bipush (v := nI 20) hx hb dL_act_371 (by decide +kernel) ?_
  refine lv_icmp_ne (tgt := 385) hx hb dL_act_373 (by decide) (fun _ => ?_) (fun c9 => absurd c9 (by decide +kernel))
  refine lv_iload_n hx hb dL_act_385 rfl (lv_at hl 1 rfl) ?_
  refine lv_bipush (v := nI 21) hx hb dL_act_386 (by decide +kernel) ?_
  refine lv_icmp_ne (tgt := 399) hx hb dL_act_388 (by decide) (fun _ => ?_) (fun c9 => absurd c9 (by decide +kernel))
  refine lv_iload_n hx hb dL_act_399 rfl (lv_at hl 1 rfl) ?_
  refine lv_bipush (v := nI 22) hx hb dL_act_400 (by decide +kernel) ?_
  refine lv_icmp_ne (tgt := 413) hx hb dL_act_402 (by decide) (fun c9 => absurd rfl c9) (fun _ => ?_)
  exact kk
theorem ac_23 (hx : p.tables.exec = Jvm.exec) (hb : c.code = cL_act) (hl : lv_has ls 7 ((0, v0) :: (1, .int (nI 23)) :: lt)) (kk : W p l e R s m args below meth c H locs cells slots Q (F0 m 413 ls [])) : W p l e R s m args below meth c H locs cells slots Q (F0 m 0 ls []) := by
  refine lv_iload_n hx hb dL_act_0 rfl (lv_at hl 1 rfl) ?_
  refine lv_if_ne (tgt := 17) hx hb dL_act_1 (by decide) (fun _ => ?_) (fun c9 => absurd c9 (by decide +kernel))
  refine lv_iload_n hx hb dL_act_17 rfl (lv_at hl 1 rfl) ?_
  refine lv_iconst (v := nI 1) hx hb dL_act_18 (by decide +kernel) ?_
  refine lv_icmp_ne (tgt := 31) hx hb dL_act_19 (by decide) (fun _ => ?_) (fun c9 => absurd c9 (by decide +kernel))
  refine lv_iload_n hx hb dL_act_31 rfl (lv_at hl 1 rfl) ?_
  refine lv_iconst (v := nI 2) hx hb dL_act_32 (by decide +kernel) ?_
  refine lv_icmp_ne (tgt := 64) hx hb dL_act_33 (by decide) (fun _ => ?_) (fun c9 => absurd c9 (by decide +kernel))
  refine lv_iload_n hx hb dL_act_64 rfl (lv_at hl 1 rfl) ?_
  refine lv_iconst (v := nI 3) hx hb dL_act_65 (by decide +kernel) ?_
  refine lv_icmp_ne (tgt := 80) hx hb dL_act_66 (by decide) (fun _ => ?_) (fun c9 => absurd c9 (by decide +kernel))
  refine lv_iload_n hx hb dL_act_80 rfl (lv_at hl 1 rfl) ?_
  refine lv_iconst (v := nI 4) hx hb dL_act_81 (by decide +kernel) ?_
  refine lv_icmp_ne (tgt := 96) hx hb dL_act_82 (by decide) (fun _ => ?_) (fun c9 => absurd c9 (by decide +kernel))
  refine lv_iload_n hx hb dL_act_96 rfl (lv_at hl 1 rfl) ?_
  refine lv_iconst (v := nI 5) hx hb dL_act_97 (by decide +kernel) ?_
  refine lv_icmp_ne (tgt := 112) hx hb dL_act_98 (by decide) (fun _ => ?_) (fun c9 => absurd c9 (by decide +kernel))
  refine lv_iload_n hx hb dL_act_112 rfl (lv_at hl 1 rfl) ?_
  refine lv_bipush (v := nI 6) hx hb dL_act_113 (by decide +kernel) ?_
  refine lv_icmp_ne (tgt := 136) hx hb dL_act_115 (by decide) (fun _ => ?_) (fun c9 => absurd c9 (by decide +kernel))
  refine lv_iload_n hx hb dL_act_136 rfl (lv_at hl 1 rfl) ?_
  refine lv_bipush (v := nI 7) hx hb dL_act_137 (by decide +kernel) ?_
  refine lv_icmp_ne (tgt := 160) hx hb dL_act_139 (by decide) (fun _ => ?_) (fun c9 => absurd c9 (by decide +kernel))
  refine lv_iload_n hx hb dL_act_160 rfl (lv_at hl 1 rfl) ?_
  refine lv_bipush (v := nI 8) hx hb dL_act_161 (by decide +kernel) ?_
  refine lv_icmp_ne (tgt := 183) hx hb dL_act_163 (by decide) (fun _ => ?_) (fun c9 => absurd c9 (by decide +kernel))
  refine lv_iload_n hx hb dL_act_183 rfl (lv_at hl 1 rfl) ?_
  refine lv_bipush (v := nI 9) hx hb dL_act_184 (by decide +kernel) ?_
  refine lv_icmp_ne (tgt := 217) hx hb dL_act_186 (by decide) (fun _ => ?_) (fun c9 => absurd c9 (by decide +kernel))
  refine lv_iload_n hx hb dL_act_217 rfl (lv_at hl 1 rfl) ?_
  refine lv_bipush (v := nI 10) hx hb dL_act_218 (by decide +kernel) ?_
  refine lv_icmp_ne (tgt := 232) hx hb dL_act_220 (by decide) (fun _ => ?_) (fun c9 => absurd c9 (by decide +kernel))
  refine lv_iload_n hx hb dL_act_232 rfl (lv_at hl 1 rfl) ?_
  refine lv_bipush (v := nI 11) hx hb dL_act_233 (by decide +kernel) ?_
  refine lv_icmp_ne (tgt := 247) hx hb dL_act_235 (by decide) (fun _ => ?_) (fun c9 => absurd c9 (by decide +kernel))
  refine lv_iload_n hx hb dL_act_247 rfl (lv_at hl 1 rfl) ?_
  refine lv_bipush (v := nI 12) hx hb dL_act_248 (by decide +kernel) ?_
  refine lv_icmp_ne (tgt := 262) hx hb dL_act_250 (by decide) (fun _ => ?_) (fun c9 => absurd c9 (by decide +kernel))
  refine lv_iload_n hx hb dL_act_262 rfl (lv_at hl 1 rfl) ?_
  refine lv_bipush (v := nI 13) hx hb dL_act_263 (by decide +kernel) ?_
  refine lv_icmp_ne (tgt := 276) hx hb dL_act_265 (by decide) (fun _ => ?_) (fun c9 => absurd c9 (by decide +kernel))
  refine lv_iload_n hx hb dL_act_276 rfl (lv_at hl 1 rfl) ?_
  refine lv_bipush (v := nI 14) hx hb dL_act_277 (by decide +kernel) ?_
  refine lv_icmp_ne (tgt := 290) hx hb dL_act_279 (by decide) (fun _ => ?_) (fun c9 => absurd c9 (by decide +kernel))
  refine lv_iload_n hx hb dL_act_290 rfl (lv_at hl 1 rfl) ?_
  refine lv_bipush (v := nI 15) hx hb dL_act_291 (by decide +kernel) ?_
  refine lv_icmp_ne (tgt := 304) hx hb dL_act_293 (by decide) (fun _ => ?_) (fun c9 => absurd c9 (by decide +kernel))
  refine lv_iload_n hx hb dL_act_304 rfl (lv_at hl 1 rfl) ?_
  refine lv_bipush (v := nI 16) hx hb dL_act_305 (by decide +kernel) ?_
  refine lv_icmp_ne (tgt := 318) hx hb dL_act_307 (by decide) (fun _ => ?_) (fun c9 => absurd c9 (by decide +kernel))
  refine lv_iload_n hx hb dL_act_318 rfl (lv_at hl 1 rfl) ?_
  refine lv_bipush (v := nI 17) hx hb dL_act_319 (by decide +kernel) ?_
  refine lv_icmp_ne (tgt := 333) hx hb dL_act_321 (by decide) (fun _ => ?_) (fun c9 => absurd c9 (by decide +kernel))
  refine lv_iload_n hx hb dL_act_333 rfl (lv_at hl 1 rfl) ?_
  refine lv_bipush (v := nI 18) hx hb dL_act_334 (by decide +kernel) ?_
  refine lv_icmp_ne (tgt := 347) hx hb dL_act_336 (by decide) (fun _ => ?_) (fun c9 => absurd c9 (by decide +kernel))
  refine lv_iload_n hx hb dL_act_347 rfl (lv_at hl 1 rfl) ?_
  refine lv_bipush (v := nI 19) hx hb dL_act_348 (by decide +kernel) ?_
  refine lv_icmp_ne (tgt := 370) hx hb dL_act_350 (by decide) (fun _ => ?_) (fun c9 => absurd c9 (by decide +kernel))
  refine lv_iload_n hx hb dL_act_370 rfl (lv_at hl 1 rfl) ?_
  refine lv_bipush (v := nI 20) hx hb dL_act_371 (by decide +kernel) ?_
  refine lv_icmp_ne (tgt := 385) hx hb dL_act_373 (by decide) (fun _ => ?_) (fun c9 => absurd c9 (by decide +kernel))
  refine lv_iload_n hx hb dL_act_385 rfl (lv_at hl 1 rfl) ?_
  refine lv_bipush (v := nI 21) hx hb dL_act_386 (by decide +kernel) ?_
  refine lv_icmp_ne (tgt := 399) hx hb dL_act_388 (by decide) (fun _ => ?_) (fun c9 => absurd c9 (by decide +kernel))
  refine lv_iload_n hx hb dL_act_399 rfl (lv_at hl 1 rfl) ?_
  refine lv_bipush (v := nI 22) hx hb dL_act_400 (by decide +kernel) ?_
  refine lv_icmp_ne (tgt := 413) hx hb dL_act_402 (by decide) (fun _ => ?_) (fun c9 => absurd c9 (by decide +kernel))
  exact kk
end AC
set_option maxRecDepth 100000 in
set_option maxHeartbeats 4000000 in
theorem ao_mention (l : Launch) (D : va_G) (cA : ClassId) (ad : Nat → Nat) (g g2 : Nat → Nat → Int32) (z z2 : Nat → Nat) (p0 p1 p2 p3 : Int32) (rm : Room) (r : Int32) (hrm : rm.cells = 0 ∧ rm.slots = 0 ∧ rm.frames ≤ 8 ∧ rm.locals ≤ 139) (hM : q_CI l yX5_mention [Cond.code yX5_mention cX5_mention 6 (some .int)] rm D cA (.ref (ad 70) :: [.int p0, .int p1, .int p2, .int p3]) (rlW cA ad g z) r (rlW cA ad g2 z2)) : q_CL l yL_act [Cond.codeWith yL_act cL_act 7 (some .int) hh_act] rm_A D cA [.ref (ad 70), .int (nI 0), .int p0, .int p1, .int p2, .int p3] (rlW cA ad g z) r (fun w => w = rlW cA ad g2 z2) := by
  refine q_startA RL (by decide +kernel) rfl (Nat.le_of_ble_eq_true rfl) ?_
  intro p e s m below meth c A args H locs ls hx hb hr hml hown hT hlk hP hK hD hA hS hl htb hX hN hZ
  have hl : lv_has ls 7 [(0, .ref (ad 70)), (1, .int (nI 0)), (2, .int p0), (3, .int p1), (4, .int p2), (5, .int p3)] := hl
  refine ac_0 hx hb hl ?_
  refine lv_aload_n hx hb dL_act_4 rfl (lv_at hl 0 rfl) ?_
  refine lv_iload_n hx hb dL_act_5 rfl (lv_at hl 2 rfl) ?_
  refine lv_iload_n hx hb dL_act_6 rfl (lv_at hl 3 rfl) ?_
  refine lv_iload hx hb dL_act_7 (lv_at hl 4 rfl) ?_
  refine lv_iload hx hb dL_act_9 (lv_at hl 5 rfl) ?_
  refine q_callIW (As := [.int p0, .int p1, .int p2, .int p3]) (r := r) (w1 := rlW cA ad g2 z2) hx hb hml hown hT hK hP hD hS hA  hM k_X5_mention kl_L_7 (q0 := 0) rfl rfl rfl ((rlW_adr _ _ _ _).trans (rlW_adr _ _ _ _).symm) hl rfl rfl (Nat.le_of_ble_eq_true rfl) ⟨⟨hrm.1, hrm.2.1⟩, (by show rm.frames + 1 ≤ 9; omega), (by show 8 + (6 + 11) + rm.locals ≤ 180; omega)⟩ ⟨Nat.zero_le _, Nat.zero_le _⟩ dL_act_11 (fun H locs hP hD hS => ?_)
  refine lv_goto (tgt := 419) hx hb dL_act_14 (by decide) ?_
  exact q_lret hx hb hr hlk rfl rfl hP hS (by decide) (by decide) dL_act_419
set_option maxRecDepth 100000 in
set_option maxHeartbeats 4000000 in
theorem ax_mention_iob (l : Launch) (D : va_G) (cA : ClassId) (ad : Nat → Nat) (g g2 : Nat → Nat → Int32) (z z2 : Nat → Nat) (p0 p1 p2 p3 : Int32) (rm : Room) (hrm : rm.cells = 1 ∧ rm.slots = 6 ∧ rm.frames ≤ 8 ∧ rm.locals ≤ 139) (hM : q_CX l yX5_mention [Cond.code yX5_mention cX5_mention 6 (some .int)] rm D cA (.ref (ad 70) :: [.int p0, .int p1, .int p2, .int p3]) (rlW cA ad g z) "java/lang/IndexOutOfBoundsException" (rlW cA ad g2 z2)) : q_CL l yL_act [Cond.codeWith yL_act cL_act 7 (some .int) hh_act] rm_A D cA [.ref (ad 70), .int (nI 0), .int p0, .int p1, .int p2, .int p3] (rlW cA ad g z) (-7000001) (fun w => w = rlW cA ad g2 z2) := by
  refine q_startA RL (by decide +kernel) rfl (Nat.le_of_ble_eq_true rfl) ?_
  intro p e s m below meth c A args H locs ls hx hb hr hml hown hT hlk hP hK hD hA hS hl htb hX hN hZ
  have hl : lv_has ls 7 [(0, .ref (ad 70)), (1, .int (nI 0)), (2, .int p0), (3, .int p1), (4, .int p2), (5, .int p3)] := hl
  refine ac_0 hx hb hl ?_
  refine lv_aload_n hx hb dL_act_4 rfl (lv_at hl 0 rfl) ?_
  refine lv_iload_n hx hb dL_act_5 rfl (lv_at hl 2 rfl) ?_
  refine lv_iload_n hx hb dL_act_6 rfl (lv_at hl 3 rfl) ?_
  refine lv_iload hx hb dL_act_7 (lv_at hl 4 rfl) ?_
  refine lv_iload hx hb dL_act_9 (lv_at hl 5 rfl) ?_
  refine q_callXC (As := [.int p0, .int p1, .int p2, .int p3]) (w1 := rlW cA ad g2 z2) (name := "java/lang/IndexOutOfBoundsException") hx hb hml hown hT hK hP hD hS hA  hX hZ hM k_X5_mention kl_L_7 (q0 := 0) rfl rfl rfl ((rlW_adr _ _ _ _).trans (rlW_adr _ _ _ _).symm) hl rfl rfl (Nat.le_of_ble_eq_true rfl) ⟨⟨hrm.1, hrm.2.1⟩, (by show rm.frames + 1 ≤ 9; omega), (by show 8 + (6 + 11) + rm.locals ≤ 180; omega)⟩ ⟨Nat.le_of_ble_eq_true rfl, Nat.le_of_ble_eq_true rfl⟩ dL_act_11 [] ⟨0, 419, 420, 88⟩ [⟨0, 419, 425, 91⟩, ⟨0, 419, 430, 94⟩] htb (fun z hz => absurd hz List.not_mem_nil) (by decide) (by decide) kx_L_88 q_cast_iob (fun q9 H locs hP hD hS => ?_)
  refine lv_astore (lv' := [(6, .ref q9), (0, .ref (ad 70)), (1, .int (nI 0)), (2, .int p0), (3, .int p1), (4, .int p2), (5, .int p3)]) hx hb dL_act_420 hl (by decide) rfl (fun ls hl => ?_)
  refine lv_ldc (v := -7000001) hx hb hown (hT.use kk_L_90 args) dL_act_422 ?_
  exact q_lret hx hb hr hlk rfl rfl hP hS (by decide) (by decide) dL_act_424
set_option maxRecDepth 100000 in
set_option maxHeartbeats 4000000 in
theorem ax_mention_iae (l : Launch) (D : va_G) (cA : ClassId) (ad : Nat → Nat) (g g2 : Nat → Nat → Int32) (z z2 : Nat → Nat) (p0 p1 p2 p3 : Int32) (rm : Room) (hrm : rm.cells = 1 ∧ rm.slots = 6 ∧ rm.frames ≤ 8 ∧ rm.locals ≤ 139) (hM : q_CX l yX5_mention [Cond.code yX5_mention cX5_mention 6 (some .int)] rm D cA (.ref (ad 70) :: [.int p0, .int p1, .int p2, .int p3]) (rlW cA ad g z) "java/lang/IllegalArgumentException" (rlW cA ad g2 z2)) : q_CL l yL_act [Cond.codeWith yL_act cL_act 7 (some .int) hh_act] rm_A D cA [.ref (ad 70), .int (nI 0), .int p0, .int p1, .int p2, .int p3] (rlW cA ad g z) (-7000002) (fun w => w = rlW cA ad g2 z2) := by
  refine q_startA RL (by decide +kernel) rfl (Nat.le_of_ble_eq_true rfl) ?_
  intro p e s m below meth c A args H locs ls hx hb hr hml hown hT hlk hP hK hD hA hS hl htb hX hN hZ
  have hl : lv_has ls 7 [(0, .ref (ad 70)), (1, .int (nI 0)), (2, .int p0), (3, .int p1), (4, .int p2), (5, .int p3)] := hl
  refine ac_0 hx hb hl ?_
  refine lv_aload_n hx hb dL_act_4 rfl (lv_at hl 0 rfl) ?_
  refine lv_iload_n hx hb dL_act_5 rfl (lv_at hl 2 rfl) ?_
  refine lv_iload_n hx hb dL_act_6 rfl (lv_at hl 3 rfl) ?_
  refine lv_iload hx hb dL_act_7 (lv_at hl 4 rfl) ?_
  refine lv_iload hx hb dL_act_9 (lv_at hl 5 rfl) ?_
  refine q_callXC (As := [.int p0, .int p1, .int p2, .int p3]) (w1 := rlW cA ad g2 z2) (name := "java/lang/IllegalArgumentException") hx hb hml hown hT hK hP hD hS hA  hX hZ hM k_X5_mention kl_L_7 (q0 := 0) rfl rfl rfl ((rlW_adr _ _ _ _).trans (rlW_adr _ _ _ _).symm) hl rfl rfl (Nat.le_of_ble_eq_true rfl) ⟨⟨hrm.1, hrm.2.1⟩, (by show rm.frames + 1 ≤ 9; omega), (by show 8 + (6 + 11) + rm.locals ≤ 180; omega)⟩ ⟨Nat.le_of_ble_eq_true rfl, Nat.le_of_ble_eq_true rfl⟩ dL_act_11 [⟨0, 419, 420, 88⟩] ⟨0, 419, 425, 91⟩ [⟨0, 419, 430, 94⟩] htb (fun z hz => Or.inr (by rw [List.mem_singleton.mp hz]; exact ⟨by decide, _, hT.use kx_L_88 args, hN.1⟩)) (by decide) (by decide) kx_L_91 q_cast_iae (fun q9 H locs hP hD hS => ?_)
  refine lv_astore (lv' := [(6, .ref q9), (0, .ref (ad 70)), (1, .int (nI 0)), (2, .int p0), (3, .int p1), (4, .int p2), (5, .int p3)]) hx hb dL_act_425 hl (by decide) rfl (fun ls hl => ?_)
  refine lv_ldc (v := -7000002) hx hb hown (hT.use kk_L_93 args) dL_act_427 ?_
  exact q_lret hx hb hr hlk rfl rfl hP hS (by decide) (by decide) dL_act_429
set_option maxRecDepth 100000 in
set_option maxHeartbeats 4000000 in
theorem ax_mention_ise (l : Launch) (D : va_G) (cA : ClassId) (ad : Nat → Nat) (g g2 : Nat → Nat → Int32) (z z2 : Nat → Nat) (p0 p1 p2 p3 : Int32) (rm : Room) (hrm : rm.cells = 1 ∧ rm.slots = 6 ∧ rm.frames ≤ 8 ∧ rm.locals ≤ 139) (hM : q_CX l yX5_mention [Cond.code yX5_mention cX5_mention 6 (some .int)] rm D cA (.ref (ad 70) :: [.int p0, .int p1, .int p2, .int p3]) (rlW cA ad g z) "java/lang/IllegalStateException" (rlW cA ad g2 z2)) : q_CL l yL_act [Cond.codeWith yL_act cL_act 7 (some .int) hh_act] rm_A D cA [.ref (ad 70), .int (nI 0), .int p0, .int p1, .int p2, .int p3] (rlW cA ad g z) (-7000003) (fun w => w = rlW cA ad g2 z2) := by
  refine q_startA RL (by decide +kernel) rfl (Nat.le_of_ble_eq_true rfl) ?_
  intro p e s m below meth c A args H locs ls hx hb hr hml hown hT hlk hP hK hD hA hS hl htb hX hN hZ
  have hl : lv_has ls 7 [(0, .ref (ad 70)), (1, .int (nI 0)), (2, .int p0), (3, .int p1), (4, .int p2), (5, .int p3)] := hl
  refine ac_0 hx hb hl ?_
  refine lv_aload_n hx hb dL_act_4 rfl (lv_at hl 0 rfl) ?_
  refine lv_iload_n hx hb dL_act_5 rfl (lv_at hl 2 rfl) ?_
  refine lv_iload_n hx hb dL_act_6 rfl (lv_at hl 3 rfl) ?_
  refine lv_iload hx hb dL_act_7 (lv_at hl 4 rfl) ?_
  refine lv_iload hx hb dL_act_9 (lv_at hl 5 rfl) ?_
  refine q_callXC (As := [.int p0, .int p1, .int p2, .int p3]) (w1 := rlW cA ad g2 z2) (name := "java/lang/IllegalStateException") hx hb hml hown hT hK hP hD hS hA  hX hZ hM k_X5_mention kl_L_7 (q0 := 0) rfl rfl rfl ((rlW_adr _ _ _ _).trans (rlW_adr _ _ _ _).symm) hl rfl rfl (Nat.le_of_ble_eq_true rfl) ⟨⟨hrm.1, hrm.2.1⟩, (by show rm.frames + 1 ≤ 9; omega), (by show 8 + (6 + 11) + rm.locals ≤ 180; omega)⟩ ⟨Nat.le_of_ble_eq_true rfl, Nat.le_of_ble_eq_true rfl⟩ dL_act_11 [⟨0, 419, 420, 88⟩, ⟨0, 419, 425, 91⟩] ⟨0, 419, 430, 94⟩ [] htb (fun z hz => Or.inr (by rcases List.mem_cons.mp hz with h9 | h9; (rw [h9]; exact ⟨by decide, _, hT.use kx_L_88 args, hN.2.1⟩); (rw [List.mem_singleton.mp h9]; exact ⟨by decide, _, hT.use kx_L_91 args, hN.2.2⟩))) (by decide) (by decide) kx_L_94 q_cast_ise (fun q9 H locs hP hD hS => ?_)
  refine lv_astore (lv' := [(6, .ref q9), (0, .ref (ad 70)), (1, .int (nI 0)), (2, .int p0), (3, .int p1), (4, .int p2), (5, .int p3)]) hx hb dL_act_430 hl (by decide) rfl (fun ls hl => ?_)
  refine lv_ldc (v := -7000003) hx hb hown (hT.use kk_L_96 args) dL_act_432 ?_
  exact q_lret hx hb hr hlk rfl rfl hP hS (by decide) (by decide) dL_act_434
set_option maxRecDepth 100000 in
set_option maxHeartbeats 4000000 in
theorem ao_rank (l : Launch) (D : va_G) (cA : ClassId) (ad : Nat → Nat) (g g2 : Nat → Nat → Int32) (z z2 : Nat → Nat) (p0 p1 p2 p3 : Int32) (rm : Room) (r : Int32) (hrm : rm.cells = 0 ∧ rm.slots = 0 ∧ rm.frames ≤ 8 ∧ rm.locals ≤ 139) (hM : q_CI l yX5_rank [Cond.code yX5_rank cX5_rank 4 (some .int)] rm D cA (.ref (ad 70) :: [.int p0, .int p1]) (rlW cA ad g z) r (rlW cA ad g2 z2)) : q_CL l yL_act [Cond.codeWith yL_act cL_act 7 (some .int) hh_act] rm_A D cA [.ref (ad 70), .int (nI 1), .int p0, .int p1, .int p2, .int p3] (rlW cA ad g z) r (fun w => w = rlW cA ad g2 z2) := by
  refine q_startA RL (by decide +kernel) rfl (Nat.le_of_ble_eq_true rfl) ?_
  intro p e s m below meth c A args H locs ls hx hb hr hml hown hT hlk hP hK hD hA hS hl htb hX hN hZ
  have hl : lv_has ls 7 [(0, .ref (ad 70)), (1, .int (nI 1)), (2, .int p0), (3, .int p1), (4, .int p2), (5, .int p3)] := hl
  refine ac_1 hx hb hl ?_
  refine lv_aload_n hx hb dL_act_22 rfl (lv_at hl 0 rfl) ?_
  refine lv_iload_n hx hb dL_act_23 rfl (lv_at hl 2 rfl) ?_
  refine lv_iload_n hx hb dL_act_24 rfl (lv_at hl 3 rfl) ?_
  refine q_callIW (As := [.int p0, .int p1]) (r := r) (w1 := rlW cA ad g2 z2) hx hb hml hown hT hK hP hD hS hA  hM k_X5_rank kl_L_13 (q0 := 0) rfl rfl rfl ((rlW_adr _ _ _ _).trans (rlW_adr _ _ _ _).symm) hl rfl rfl (Nat.le_of_ble_eq_true rfl) ⟨⟨hrm.1, hrm.2.1⟩, (by show rm.frames + 1 ≤ 9; omega), (by show 8 + (4 + 11) + rm.locals ≤ 180; omega)⟩ ⟨Nat.zero_le _, Nat.zero_le _⟩ dL_act_25 (fun H locs hP hD hS => ?_)
  refine lv_goto (tgt := 419) hx hb dL_act_28 (by decide) ?_
  exact q_lret hx hb hr hlk rfl rfl hP hS (by decide) (by decide) dL_act_419
set_option maxRecDepth 100000 in
set_option maxHeartbeats 4000000 in
theorem ax_rank_iob (l : Launch) (D : va_G) (cA : ClassId) (ad : Nat → Nat) (g g2 : Nat → Nat → Int32) (z z2 : Nat → Nat) (p0 p1 p2 p3 : Int32) (rm : Room) (hrm : rm.cells = 1 ∧ rm.slots = 6 ∧ rm.frames ≤ 8 ∧ rm.locals ≤ 139) (hM : q_CX l yX5_rank [Cond.code yX5_rank cX5_rank 4 (some .int)] rm D cA (.ref (ad 70) :: [.int p0, .int p1]) (rlW cA ad g z) "java/lang/IndexOutOfBoundsException" (rlW cA ad g2 z2)) : q_CL l yL_act [Cond.codeWith yL_act cL_act 7 (some .int) hh_act] rm_A D cA [.ref (ad 70), .int (nI 1), .int p0, .int p1, .int p2, .int p3] (rlW cA ad g z) (-7000001) (fun w => w = rlW cA ad g2 z2) := by
  refine q_startA RL (by decide +kernel) rfl (Nat.le_of_ble_eq_true rfl) ?_
  intro p e s m below meth c A args H locs ls hx hb hr hml hown hT hlk hP hK hD hA hS hl htb hX hN hZ
  have hl : lv_has ls 7 [(0, .ref (ad 70)), (1, .int (nI 1)), (2, .int p0), (3, .int p1), (4, .int p2), (5, .int p3)] := hl
  refine ac_1 hx hb hl ?_
  refine lv_aload_n hx hb dL_act_22 rfl (lv_at hl 0 rfl) ?_
  refine lv_iload_n hx hb dL_act_23 rfl (lv_at hl 2 rfl) ?_
  refine lv_iload_n hx hb dL_act_24 rfl (lv_at hl 3 rfl) ?_
  refine q_callXC (As := [.int p0, .int p1]) (w1 := rlW cA ad g2 z2) (name := "java/lang/IndexOutOfBoundsException") hx hb hml hown hT hK hP hD hS hA  hX hZ hM k_X5_rank kl_L_13 (q0 := 0) rfl rfl rfl ((rlW_adr _ _ _ _).trans (rlW_adr _ _ _ _).symm) hl rfl rfl (Nat.le_of_ble_eq_true rfl) ⟨⟨hrm.1, hrm.2.1⟩, (by show rm.frames + 1 ≤ 9; omega), (by show 8 + (4 + 11) + rm.locals ≤ 180; omega)⟩ ⟨Nat.le_of_ble_eq_true rfl, Nat.le_of_ble_eq_true rfl⟩ dL_act_25 [] ⟨0, 419, 420, 88⟩ [⟨0, 419, 425, 91⟩, ⟨0, 419, 430, 94⟩] htb (fun z hz => absurd hz List.not_mem_nil) (by decide) (by decide) kx_L_88 q_cast_iob (fun q9 H locs hP hD hS => ?_)
  refine lv_astore (lv' := [(6, .ref q9), (0, .ref (ad 70)), (1, .int (nI 1)), (2, .int p0), (3, .int p1), (4, .int p2), (5, .int p3)]) hx hb dL_act_420 hl (by decide) rfl (fun ls hl => ?_)
  refine lv_ldc (v := -7000001) hx hb hown (hT.use kk_L_90 args) dL_act_422 ?_
  exact q_lret hx hb hr hlk rfl rfl hP hS (by decide) (by decide) dL_act_424
set_option maxRecDepth 100000 in
set_option maxHeartbeats 4000000 in
theorem ax_rank_iae (l : Launch) (D : va_G) (cA : ClassId) (ad : Nat → Nat) (g g2 : Nat → Nat → Int32) (z z2 : Nat → Nat) (p0 p1 p2 p3 : Int32) (rm : Room) (hrm : rm.cells = 1 ∧ rm.slots = 6 ∧ rm.frames ≤ 8 ∧ rm.locals ≤ 139) (hM : q_CX l yX5_rank [Cond.code yX5_rank cX5_rank 4 (some .int)] rm D cA (.ref (ad 70) :: [.int p0, .int p1]) (rlW cA ad g z) "java/lang/IllegalArgumentException" (rlW cA ad g2 z2)) : q_CL l yL_act [Cond.codeWith yL_act cL_act 7 (some .int) hh_act] rm_A D cA [.ref (ad 70), .int (nI 1), .int p0, .int p1, .int p2, .int p3] (rlW cA ad g z) (-7000002) (fun w => w = rlW cA ad g2 z2) := by
  refine q_startA RL (by decide +kernel) rfl (Nat.le_of_ble_eq_true rfl) ?_
  intro p e s m below meth c A args H locs ls hx hb hr hml hown hT hlk hP hK hD hA hS hl htb hX hN hZ
  have hl : lv_has ls 7 [(0, .ref (ad 70)), (1, .int (nI 1)), (2, .int p0), (3, .int p1), (4, .int p2), (5, .int p3)] := hl
  refine ac_1 hx hb hl ?_
  refine lv_aload_n hx hb dL_act_22 rfl (lv_at hl 0 rfl) ?_
  refine lv_iload_n hx hb dL_act_23 rfl (lv_at hl 2 rfl) ?_
  refine lv_iload_n hx hb dL_act_24 rfl (lv_at hl 3 rfl) ?_
  refine q_callXC (As := [.int p0, .int p1]) (w1 := rlW cA ad g2 z2) (name := "java/lang/IllegalArgumentException") hx hb hml hown hT hK hP hD hS hA  hX hZ hM k_X5_rank kl_L_13 (q0 := 0) rfl rfl rfl ((rlW_adr _ _ _ _).trans (rlW_adr _ _ _ _).symm) hl rfl rfl (Nat.le_of_ble_eq_true rfl) ⟨⟨hrm.1, hrm.2.1⟩, (by show rm.frames + 1 ≤ 9; omega), (by show 8 + (4 + 11) + rm.locals ≤ 180; omega)⟩ ⟨Nat.le_of_ble_eq_true rfl, Nat.le_of_ble_eq_true rfl⟩ dL_act_25 [⟨0, 419, 420, 88⟩] ⟨0, 419, 425, 91⟩ [⟨0, 419, 430, 94⟩] htb (fun z hz => Or.inr (by rw [List.mem_singleton.mp hz]; exact ⟨by decide, _, hT.use kx_L_88 args, hN.1⟩)) (by decide) (by decide) kx_L_91 q_cast_iae (fun q9 H locs hP hD hS => ?_)
  refine lv_astore (lv' := [(6, .ref q9), (0, .ref (ad 70)), (1, .int (nI 1)), (2, .int p0), (3, .int p1), (4, .int p2), (5, .int p3)]) hx hb dL_act_425 hl (by decide) rfl (fun ls hl => ?_)
  refine lv_ldc (v := -7000002) hx hb hown (hT.use kk_L_93 args) dL_act_427 ?_
  exact q_lret hx hb hr hlk rfl rfl hP hS (by decide) (by decide) dL_act_429
set_option maxRecDepth 100000 in
set_option maxHeartbeats 4000000 in
theorem ao_bar (l : Launch) (D : va_G) (cA : ClassId) (ad : Nat → Nat) (g g2 : Nat → Nat → Int32) (z z2 : Nat → Nat) (p0 p1 p2 p3 : Int32) (rm : Room) (bb : Bool) (hrm : rm.cells = 0 ∧ rm.slots = 0 ∧ rm.frames ≤ 8 ∧ rm.locals ≤ 139) (hM : q_CI l yX5_bar [Cond.code yX5_bar cX5_bar 4 (some .boolean)] rm D cA (.ref (ad 70) :: [.int p0, .int p1, .int (q_b (decide (p2 = nI 1)))]) (rlW cA ad g z) (q_b bb) (rlW cA ad g2 z2)) : q_CL l yL_act [Cond.codeWith yL_act cL_act 7 (some .int) hh_act] rm_A D cA [.ref (ad 70), .int (nI 2), .int p0, .int p1, .int p2, .int p3] (rlW cA ad g z) (q_b bb) (fun w => w = rlW cA ad g2 z2) := by
  refine q_startA RL (by decide +kernel) rfl (Nat.le_of_ble_eq_true rfl) ?_
  intro p e s m below meth c A args H locs ls hx hb hr hml hown hT hlk hP hK hD hA hS hl htb hX hN hZ
  have hl : lv_has ls 7 [(0, .ref (ad 70)), (1, .int (nI 2)), (2, .int p0), (3, .int p1), (4, .int p2), (5, .int p3)] := hl
  refine ac_2 hx hb hl ?_
  refine lv_aload_n hx hb dL_act_36 rfl (lv_at hl 0 rfl) ?_
  refine lv_iload_n hx hb dL_act_37 rfl (lv_at hl 2 rfl) ?_
  refine lv_iload_n hx hb dL_act_38 rfl (lv_at hl 3 rfl) ?_
  refine lv_iload hx hb dL_act_39 (lv_at hl 4 rfl) ?_
  refine lv_iconst (v := nI 1) hx hb dL_act_41 (by decide +kernel) ?_
  refine lv_icmp_ne (tgt := 49) hx hb dL_act_42 (by decide) (fun c9 => ?_) (fun c9 => ?_)
  · have e9 : q_b (decide (p2 = nI 1)) = nI 0 := by rw [decide_eq_false c9]; rfl
    rw [e9] at hM
    refine lv_iconst (v := nI 0) hx hb dL_act_49 (by decide +kernel) ?_
    refine q_callIW (As := [.int p0, .int p1, .int (nI 0)]) (r := (q_b bb)) (w1 := rlW cA ad g2 z2) hx hb hml hown hT hK hP hD hS hA  hM k_X5_bar kl_L_17 (q0 := 0) rfl rfl rfl ((rlW_adr _ _ _ _).trans (rlW_adr _ _ _ _).symm) hl rfl rfl (Nat.le_of_ble_eq_true rfl) ⟨⟨hrm.1, hrm.2.1⟩, (by show rm.frames + 1 ≤ 9; omega), (by show 8 + (4 + 11) + rm.locals ≤ 180; omega)⟩ ⟨Nat.zero_le _, Nat.zero_le _⟩ dL_act_50 (fun H locs hP hD hS => ?_)
    refine lv_if_eq (tgt := 60) hx hb dL_act_53 (by decide) (fun c9 => ?_) (fun c9 => ?_)
    · have c9 := q_b0e c9
      subst c9
      refine lv_iconst (v := nI 0) hx hb dL_act_60 (by decide +kernel) ?_
      refine lv_goto (tgt := 419) hx hb dL_act_61 (by decide) ?_
      exact q_lret hx hb hr hlk rfl rfl hP hS (by decide) (by decide) dL_act_419
    · have c9 := q_b0n c9
      subst c9
      refine lv_iconst (v := nI 1) hx hb dL_act_56 (by decide +kernel) ?_
      refine lv_goto (tgt := 419) hx hb dL_act_57 (by decide) ?_
      exact q_lret hx hb hr hlk rfl rfl hP hS (by decide) (by decide) dL_act_419
  · have e9 : q_b (decide (p2 = nI 1)) = nI 1 := by rw [decide_eq_true c9]; rfl
    rw [e9] at hM
    refine lv_iconst (v := nI 1) hx hb dL_act_45 (by decide +kernel) ?_
    refine lv_goto (tgt := 50) hx hb dL_act_46 (by decide) ?_
    refine q_callIW (As := [.int p0, .int p1, .int (nI 1)]) (r := (q_b bb)) (w1 := rlW cA ad g2 z2) hx hb hml hown hT hK hP hD hS hA  hM k_X5_bar kl_L_17 (q0 := 0) rfl rfl rfl ((rlW_adr _ _ _ _).trans (rlW_adr _ _ _ _).symm) hl rfl rfl (Nat.le_of_ble_eq_true rfl) ⟨⟨hrm.1, hrm.2.1⟩, (by show rm.frames + 1 ≤ 9; omega), (by show 8 + (4 + 11) + rm.locals ≤ 180; omega)⟩ ⟨Nat.zero_le _, Nat.zero_le _⟩ dL_act_50 (fun H locs hP hD hS => ?_)
    refine lv_if_eq (tgt := 60) hx hb dL_act_53 (by decide) (fun c9 => ?_) (fun c9 => ?_)
    · have c9 := q_b0e c9
      subst c9
      refine lv_iconst (v := nI 0) hx hb dL_act_60 (by decide +kernel) ?_
      refine lv_goto (tgt := 419) hx hb dL_act_61 (by decide) ?_
      exact q_lret hx hb hr hlk rfl rfl hP hS (by decide) (by decide) dL_act_419
    · have c9 := q_b0n c9
      subst c9
      refine lv_iconst (v := nI 1) hx hb dL_act_56 (by decide +kernel) ?_
      refine lv_goto (tgt := 419) hx hb dL_act_57 (by decide) ?_
      exact q_lret hx hb hr hlk rfl rfl hP hS (by decide) (by decide) dL_act_419
set_option maxRecDepth 100000 in
set_option maxHeartbeats 4000000 in
theorem ax_bar_iob (l : Launch) (D : va_G) (cA : ClassId) (ad : Nat → Nat) (g g2 : Nat → Nat → Int32) (z z2 : Nat → Nat) (p0 p1 p2 p3 : Int32) (rm : Room) (hrm : rm.cells = 1 ∧ rm.slots = 6 ∧ rm.frames ≤ 8 ∧ rm.locals ≤ 139) (hM : q_CX l yX5_bar [Cond.code yX5_bar cX5_bar 4 (some .boolean)] rm D cA (.ref (ad 70) :: [.int p0, .int p1, .int (q_b (decide (p2 = nI 1)))]) (rlW cA ad g z) "java/lang/IndexOutOfBoundsException" (rlW cA ad g2 z2)) : q_CL l yL_act [Cond.codeWith yL_act cL_act 7 (some .int) hh_act] rm_A D cA [.ref (ad 70), .int (nI 2), .int p0, .int p1, .int p2, .int p3] (rlW cA ad g z) (-7000001) (fun w => w = rlW cA ad g2 z2) := by
  refine q_startA RL (by decide +kernel) rfl (Nat.le_of_ble_eq_true rfl) ?_
  intro p e s m below meth c A args H locs ls hx hb hr hml hown hT hlk hP hK hD hA hS hl htb hX hN hZ
  have hl : lv_has ls 7 [(0, .ref (ad 70)), (1, .int (nI 2)), (2, .int p0), (3, .int p1), (4, .int p2), (5, .int p3)] := hl
  refine ac_2 hx hb hl ?_
  refine lv_aload_n hx hb dL_act_36 rfl (lv_at hl 0 rfl) ?_
  refine lv_iload_n hx hb dL_act_37 rfl (lv_at hl 2 rfl) ?_
  refine lv_iload_n hx hb dL_act_38 rfl (lv_at hl 3 rfl) ?_
  refine lv_iload hx hb dL_act_39 (lv_at hl 4 rfl) ?_
  refine lv_iconst (v := nI 1) hx hb dL_act_41 (by decide +kernel) ?_
  refine lv_icmp_ne (tgt := 49) hx hb dL_act_42 (by decide) (fun c9 => ?_) (fun c9 => ?_)
  · have e9 : q_b (decide (p2 = nI 1)) = nI 0 := by rw [decide_eq_false c9]; rfl
    rw [e9] at hM
    refine lv_iconst (v := nI 0) hx hb dL_act_49 (by decide +kernel) ?_
    refine q_callXC (As := [.int p0, .int p1, .int (nI 0)]) (w1 := rlW cA ad g2 z2) (name := "java/lang/IndexOutOfBoundsException") hx hb hml hown hT hK hP hD hS hA  hX hZ hM k_X5_bar kl_L_17 (q0 := 0) rfl rfl rfl ((rlW_adr _ _ _ _).trans (rlW_adr _ _ _ _).symm) hl rfl rfl (Nat.le_of_ble_eq_true rfl) ⟨⟨hrm.1, hrm.2.1⟩, (by show rm.frames + 1 ≤ 9; omega), (by show 8 + (4 + 11) + rm.locals ≤ 180; omega)⟩ ⟨Nat.le_of_ble_eq_true rfl, Nat.le_of_ble_eq_true rfl⟩ dL_act_50 [] ⟨0, 419, 420, 88⟩ [⟨0, 419, 425, 91⟩, ⟨0, 419, 430, 94⟩] htb (fun z hz => absurd hz List.not_mem_nil) (by decide) (by decide) kx_L_88 q_cast_iob (fun q9 H locs hP hD hS => ?_)
    refine lv_astore (lv' := [(6, .ref q9), (0, .ref (ad 70)), (1, .int (nI 2)), (2, .int p0), (3, .int p1), (4, .int p2), (5, .int p3)]) hx hb dL_act_420 hl (by decide) rfl (fun ls hl => ?_)
    refine lv_ldc (v := -7000001) hx hb hown (hT.use kk_L_90 args) dL_act_422 ?_
    exact q_lret hx hb hr hlk rfl rfl hP hS (by decide) (by decide) dL_act_424
  · have e9 : q_b (decide (p2 = nI 1)) = nI 1 := by rw [decide_eq_true c9]; rfl
    rw [e9] at hM
    refine lv_iconst (v := nI 1) hx hb dL_act_45 (by decide +kernel) ?_
    refine lv_goto (tgt := 50) hx hb dL_act_46 (by decide) ?_
    refine q_callXC (As := [.int p0, .int p1, .int (nI 1)]) (w1 := rlW cA ad g2 z2) (name := "java/lang/IndexOutOfBoundsException") hx hb hml hown hT hK hP hD hS hA  hX hZ hM k_X5_bar kl_L_17 (q0 := 0) rfl rfl rfl ((rlW_adr _ _ _ _).trans (rlW_adr _ _ _ _).symm) hl rfl rfl (Nat.le_of_ble_eq_true rfl) ⟨⟨hrm.1, hrm.2.1⟩, (by show rm.frames + 1 ≤ 9; omega), (by show 8 + (4 + 11) + rm.locals ≤ 180; omega)⟩ ⟨Nat.le_of_ble_eq_true rfl, Nat.le_of_ble_eq_true rfl⟩ dL_act_50 [] ⟨0, 419, 420, 88⟩ [⟨0, 419, 425, 91⟩, ⟨0, 419, 430, 94⟩] htb (fun z hz => absurd hz List.not_mem_nil) (by decide) (by decide) kx_L_88 q_cast_iob (fun q9 H locs hP hD hS => ?_)
    refine lv_astore (lv' := [(6, .ref q9), (0, .ref (ad 70)), (1, .int (nI 2)), (2, .int p0), (3, .int p1), (4, .int p2), (5, .int p3)]) hx hb dL_act_420 hl (by decide) rfl (fun ls hl => ?_)
    refine lv_ldc (v := -7000001) hx hb hown (hT.use kk_L_90 args) dL_act_422 ?_
    exact q_lret hx hb hr hlk rfl rfl hP hS (by decide) (by decide) dL_act_424
set_option maxRecDepth 100000 in
set_option maxHeartbeats 4000000 in
theorem ax_bar_iae (l : Launch) (D : va_G) (cA : ClassId) (ad : Nat → Nat) (g g2 : Nat → Nat → Int32) (z z2 : Nat → Nat) (p0 p1 p2 p3 : Int32) (rm : Room) (hrm : rm.cells = 1 ∧ rm.slots = 6 ∧ rm.frames ≤ 8 ∧ rm.locals ≤ 139) (hM : q_CX l yX5_bar [Cond.code yX5_bar cX5_bar 4 (some .boolean)] rm D cA (.ref (ad 70) :: [.int p0, .int p1, .int (q_b (decide (p2 = nI 1)))]) (rlW cA ad g z) "java/lang/IllegalArgumentException" (rlW cA ad g2 z2)) : q_CL l yL_act [Cond.codeWith yL_act cL_act 7 (some .int) hh_act] rm_A D cA [.ref (ad 70), .int (nI 2), .int p0, .int p1, .int p2, .int p3] (rlW cA ad g z) (-7000002) (fun w => w = rlW cA ad g2 z2) := by
  refine q_startA RL (by decide +kernel) rfl (Nat.le_of_ble_eq_true rfl) ?_
  intro p e s m below meth c A args H locs ls hx hb hr hml hown hT hlk hP hK hD hA hS hl htb hX hN hZ
  have hl : lv_has ls 7 [(0, .ref (ad 70)), (1, .int (nI 2)), (2, .int p0), (3, .int p1), (4, .int p2), (5, .int p3)] := hl
  refine ac_2 hx hb hl ?_
  refine lv_aload_n hx hb dL_act_36 rfl (lv_at hl 0 rfl) ?_
  refine lv_iload_n hx hb dL_act_37 rfl (lv_at hl 2 rfl) ?_
  refine lv_iload_n hx hb dL_act_38 rfl (lv_at hl 3 rfl) ?_
  refine lv_iload hx hb dL_act_39 (lv_at hl 4 rfl) ?_
  refine lv_iconst (v := nI 1) hx hb dL_act_41 (by decide +kernel) ?_
  refine lv_icmp_ne (tgt := 49) hx hb dL_act_42 (by decide) (fun c9 => ?_) (fun c9 => ?_)
  · have e9 : q_b (decide (p2 = nI 1)) = nI 0 := by rw [decide_eq_false c9]; rfl
    rw [e9] at hM
    refine lv_iconst (v := nI 0) hx hb dL_act_49 (by decide +kernel) ?_
    refine q_callXC (As := [.int p0, .int p1, .int (nI 0)]) (w1 := rlW cA ad g2 z2) (name := "java/lang/IllegalArgumentException") hx hb hml hown hT hK hP hD hS hA  hX hZ hM k_X5_bar kl_L_17 (q0 := 0) rfl rfl rfl ((rlW_adr _ _ _ _).trans (rlW_adr _ _ _ _).symm) hl rfl rfl (Nat.le_of_ble_eq_true rfl) ⟨⟨hrm.1, hrm.2.1⟩, (by show rm.frames + 1 ≤ 9; omega), (by show 8 + (4 + 11) + rm.locals ≤ 180; omega)⟩ ⟨Nat.le_of_ble_eq_true rfl, Nat.le_of_ble_eq_true rfl⟩ dL_act_50 [⟨0, 419, 420, 88⟩] ⟨0, 419, 425, 91⟩ [⟨0, 419, 430, 94⟩] htb (fun z hz => Or.inr (by rw [List.mem_singleton.mp hz]; exact ⟨by decide, _, hT.use kx_L_88 args, hN.1⟩)) (by decide) (by decide) kx_L_91 q_cast_iae (fun q9 H locs hP hD hS => ?_)
    refine lv_astore (lv' := [(6, .ref q9), (0, .ref (ad 70)), (1, .int (nI 2)), (2, .int p0), (3, .int p1), (4, .int p2), (5, .int p3)]) hx hb dL_act_425 hl (by decide) rfl (fun ls hl => ?_)
    refine lv_ldc (v := -7000002) hx hb hown (hT.use kk_L_93 args) dL_act_427 ?_
    exact q_lret hx hb hr hlk rfl rfl hP hS (by decide) (by decide) dL_act_429
  · have e9 : q_b (decide (p2 = nI 1)) = nI 1 := by rw [decide_eq_true c9]; rfl
    rw [e9] at hM
    refine lv_iconst (v := nI 1) hx hb dL_act_45 (by decide +kernel) ?_
    refine lv_goto (tgt := 50) hx hb dL_act_46 (by decide) ?_
    refine q_callXC (As := [.int p0, .int p1, .int (nI 1)]) (w1 := rlW cA ad g2 z2) (name := "java/lang/IllegalArgumentException") hx hb hml hown hT hK hP hD hS hA  hX hZ hM k_X5_bar kl_L_17 (q0 := 0) rfl rfl rfl ((rlW_adr _ _ _ _).trans (rlW_adr _ _ _ _).symm) hl rfl rfl (Nat.le_of_ble_eq_true rfl) ⟨⟨hrm.1, hrm.2.1⟩, (by show rm.frames + 1 ≤ 9; omega), (by show 8 + (4 + 11) + rm.locals ≤ 180; omega)⟩ ⟨Nat.le_of_ble_eq_true rfl, Nat.le_of_ble_eq_true rfl⟩ dL_act_50 [⟨0, 419, 420, 88⟩] ⟨0, 419, 425, 91⟩ [⟨0, 419, 430, 94⟩] htb (fun z hz => Or.inr (by rw [List.mem_singleton.mp hz]; exact ⟨by decide, _, hT.use kx_L_88 args, hN.1⟩)) (by decide) (by decide) kx_L_91 q_cast_iae (fun q9 H locs hP hD hS => ?_)
    refine lv_astore (lv' := [(6, .ref q9), (0, .ref (ad 70)), (1, .int (nI 2)), (2, .int p0), (3, .int p1), (4, .int p2), (5, .int p3)]) hx hb dL_act_425 hl (by decide) rfl (fun ls hl => ?_)
    refine lv_ldc (v := -7000002) hx hb hown (hT.use kk_L_93 args) dL_act_427 ?_
    exact q_lret hx hb hr hlk rfl rfl hP hS (by decide) (by decide) dL_act_429
set_option maxRecDepth 100000 in
set_option maxHeartbeats 4000000 in
theorem ao_ahead (l : Launch) (D : va_G) (cA : ClassId) (ad : Nat → Nat) (g g2 : Nat → Nat → Int32) (z z2 : Nat → Nat) (p0 p1 p2 p3 : Int32) (rm : Room) (r : Int32) (hrm : rm.cells = 0 ∧ rm.slots = 0 ∧ rm.frames ≤ 8 ∧ rm.locals ≤ 139) (hM : q_CI l yX5_ahead [Cond.code yX5_ahead cX5_ahead 5 (some .int)] rm D cA (.ref (ad 70) :: [.int p0, .int p1, .int p2]) (rlW cA ad g z) r (rlW cA ad g2 z2)) : q_CL l yL_act [Cond.codeWith yL_act cL_act 7 (some .int) hh_act] rm_A D cA [.ref (ad 70), .int (nI 3), .int p0, .int p1, .int p2, .int p3] (rlW cA ad g z) r (fun w => w = rlW cA ad g2 z2) := by
  refine q_startA RL (by decide +kernel) rfl (Nat.le_of_ble_eq_true rfl) ?_
  intro p e s m below meth c A args H locs ls hx hb hr hml hown hT hlk hP hK hD hA hS hl htb hX hN hZ
  have hl : lv_has ls 7 [(0, .ref (ad 70)), (1, .int (nI 3)), (2, .int p0), (3, .int p1), (4, .int p2), (5, .int p3)] := hl
  refine ac_3 hx hb hl ?_
  refine lv_aload_n hx hb dL_act_69 rfl (lv_at hl 0 rfl) ?_
  refine lv_iload_n hx hb dL_act_70 rfl (lv_at hl 2 rfl) ?_
  refine lv_iload_n hx hb dL_act_71 rfl (lv_at hl 3 rfl) ?_
  refine lv_iload hx hb dL_act_72 (lv_at hl 4 rfl) ?_
  refine q_callIW (As := [.int p0, .int p1, .int p2]) (r := r) (w1 := rlW cA ad g2 z2) hx hb hml hown hT hK hP hD hS hA  hM k_X5_ahead kl_L_21 (q0 := 0) rfl rfl rfl ((rlW_adr _ _ _ _).trans (rlW_adr _ _ _ _).symm) hl rfl rfl (Nat.le_of_ble_eq_true rfl) ⟨⟨hrm.1, hrm.2.1⟩, (by show rm.frames + 1 ≤ 9; omega), (by show 8 + (5 + 11) + rm.locals ≤ 180; omega)⟩ ⟨Nat.zero_le _, Nat.zero_le _⟩ dL_act_74 (fun H locs hP hD hS => ?_)
  refine lv_goto (tgt := 419) hx hb dL_act_77 (by decide) ?_
  exact q_lret hx hb hr hlk rfl rfl hP hS (by decide) (by decide) dL_act_419
set_option maxRecDepth 100000 in
set_option maxHeartbeats 4000000 in
theorem ax_ahead_iob (l : Launch) (D : va_G) (cA : ClassId) (ad : Nat → Nat) (g g2 : Nat → Nat → Int32) (z z2 : Nat → Nat) (p0 p1 p2 p3 : Int32) (rm : Room) (hrm : rm.cells = 1 ∧ rm.slots = 6 ∧ rm.frames ≤ 8 ∧ rm.locals ≤ 139) (hM : q_CX l yX5_ahead [Cond.code yX5_ahead cX5_ahead 5 (some .int)] rm D cA (.ref (ad 70) :: [.int p0, .int p1, .int p2]) (rlW cA ad g z) "java/lang/IndexOutOfBoundsException" (rlW cA ad g2 z2)) : q_CL l yL_act [Cond.codeWith yL_act cL_act 7 (some .int) hh_act] rm_A D cA [.ref (ad 70), .int (nI 3), .int p0, .int p1, .int p2, .int p3] (rlW cA ad g z) (-7000001) (fun w => w = rlW cA ad g2 z2) := by
  refine q_startA RL (by decide +kernel) rfl (Nat.le_of_ble_eq_true rfl) ?_
  intro p e s m below meth c A args H locs ls hx hb hr hml hown hT hlk hP hK hD hA hS hl htb hX hN hZ
  have hl : lv_has ls 7 [(0, .ref (ad 70)), (1, .int (nI 3)), (2, .int p0), (3, .int p1), (4, .int p2), (5, .int p3)] := hl
  refine ac_3 hx hb hl ?_
  refine lv_aload_n hx hb dL_act_69 rfl (lv_at hl 0 rfl) ?_
  refine lv_iload_n hx hb dL_act_70 rfl (lv_at hl 2 rfl) ?_
  refine lv_iload_n hx hb dL_act_71 rfl (lv_at hl 3 rfl) ?_
  refine lv_iload hx hb dL_act_72 (lv_at hl 4 rfl) ?_
  refine q_callXC (As := [.int p0, .int p1, .int p2]) (w1 := rlW cA ad g2 z2) (name := "java/lang/IndexOutOfBoundsException") hx hb hml hown hT hK hP hD hS hA  hX hZ hM k_X5_ahead kl_L_21 (q0 := 0) rfl rfl rfl ((rlW_adr _ _ _ _).trans (rlW_adr _ _ _ _).symm) hl rfl rfl (Nat.le_of_ble_eq_true rfl) ⟨⟨hrm.1, hrm.2.1⟩, (by show rm.frames + 1 ≤ 9; omega), (by show 8 + (5 + 11) + rm.locals ≤ 180; omega)⟩ ⟨Nat.le_of_ble_eq_true rfl, Nat.le_of_ble_eq_true rfl⟩ dL_act_74 [] ⟨0, 419, 420, 88⟩ [⟨0, 419, 425, 91⟩, ⟨0, 419, 430, 94⟩] htb (fun z hz => absurd hz List.not_mem_nil) (by decide) (by decide) kx_L_88 q_cast_iob (fun q9 H locs hP hD hS => ?_)
  refine lv_astore (lv' := [(6, .ref q9), (0, .ref (ad 70)), (1, .int (nI 3)), (2, .int p0), (3, .int p1), (4, .int p2), (5, .int p3)]) hx hb dL_act_420 hl (by decide) rfl (fun ls hl => ?_)
  refine lv_ldc (v := -7000001) hx hb hown (hT.use kk_L_90 args) dL_act_422 ?_
  exact q_lret hx hb hr hlk rfl rfl hP hS (by decide) (by decide) dL_act_424
set_option maxRecDepth 100000 in
set_option maxHeartbeats 4000000 in
theorem ax_ahead_iae (l : Launch) (D : va_G) (cA : ClassId) (ad : Nat → Nat) (g g2 : Nat → Nat → Int32) (z z2 : Nat → Nat) (p0 p1 p2 p3 : Int32) (rm : Room) (hrm : rm.cells = 1 ∧ rm.slots = 6 ∧ rm.frames ≤ 8 ∧ rm.locals ≤ 139) (hM : q_CX l yX5_ahead [Cond.code yX5_ahead cX5_ahead 5 (some .int)] rm D cA (.ref (ad 70) :: [.int p0, .int p1, .int p2]) (rlW cA ad g z) "java/lang/IllegalArgumentException" (rlW cA ad g2 z2)) : q_CL l yL_act [Cond.codeWith yL_act cL_act 7 (some .int) hh_act] rm_A D cA [.ref (ad 70), .int (nI 3), .int p0, .int p1, .int p2, .int p3] (rlW cA ad g z) (-7000002) (fun w => w = rlW cA ad g2 z2) := by
  refine q_startA RL (by decide +kernel) rfl (Nat.le_of_ble_eq_true rfl) ?_
  intro p e s m below meth c A args H locs ls hx hb hr hml hown hT hlk hP hK hD hA hS hl htb hX hN hZ
  have hl : lv_has ls 7 [(0, .ref (ad 70)), (1, .int (nI 3)), (2, .int p0), (3, .int p1), (4, .int p2), (5, .int p3)] := hl
  refine ac_3 hx hb hl ?_
  refine lv_aload_n hx hb dL_act_69 rfl (lv_at hl 0 rfl) ?_
  refine lv_iload_n hx hb dL_act_70 rfl (lv_at hl 2 rfl) ?_
  refine lv_iload_n hx hb dL_act_71 rfl (lv_at hl 3 rfl) ?_
  refine lv_iload hx hb dL_act_72 (lv_at hl 4 rfl) ?_
  refine q_callXC (As := [.int p0, .int p1, .int p2]) (w1 := rlW cA ad g2 z2) (name := "java/lang/IllegalArgumentException") hx hb hml hown hT hK hP hD hS hA  hX hZ hM k_X5_ahead kl_L_21 (q0 := 0) rfl rfl rfl ((rlW_adr _ _ _ _).trans (rlW_adr _ _ _ _).symm) hl rfl rfl (Nat.le_of_ble_eq_true rfl) ⟨⟨hrm.1, hrm.2.1⟩, (by show rm.frames + 1 ≤ 9; omega), (by show 8 + (5 + 11) + rm.locals ≤ 180; omega)⟩ ⟨Nat.le_of_ble_eq_true rfl, Nat.le_of_ble_eq_true rfl⟩ dL_act_74 [⟨0, 419, 420, 88⟩] ⟨0, 419, 425, 91⟩ [⟨0, 419, 430, 94⟩] htb (fun z hz => Or.inr (by rw [List.mem_singleton.mp hz]; exact ⟨by decide, _, hT.use kx_L_88 args, hN.1⟩)) (by decide) (by decide) kx_L_91 q_cast_iae (fun q9 H locs hP hD hS => ?_)
  refine lv_astore (lv' := [(6, .ref q9), (0, .ref (ad 70)), (1, .int (nI 3)), (2, .int p0), (3, .int p1), (4, .int p2), (5, .int p3)]) hx hb dL_act_425 hl (by decide) rfl (fun ls hl => ?_)
  refine lv_ldc (v := -7000002) hx hb hown (hT.use kk_L_93 args) dL_act_427 ?_
  exact q_lret hx hb hr hlk rfl rfl hP hS (by decide) (by decide) dL_act_429
set_option maxRecDepth 100000 in
set_option maxHeartbeats 4000000 in
theorem ax_ahead_ise (l : Launch) (D : va_G) (cA : ClassId) (ad : Nat → Nat) (g g2 : Nat → Nat → Int32) (z z2 : Nat → Nat) (p0 p1 p2 p3 : Int32) (rm : Room) (hrm : rm.cells = 1 ∧ rm.slots = 6 ∧ rm.frames ≤ 8 ∧ rm.locals ≤ 139) (hM : q_CX l yX5_ahead [Cond.code yX5_ahead cX5_ahead 5 (some .int)] rm D cA (.ref (ad 70) :: [.int p0, .int p1, .int p2]) (rlW cA ad g z) "java/lang/IllegalStateException" (rlW cA ad g2 z2)) : q_CL l yL_act [Cond.codeWith yL_act cL_act 7 (some .int) hh_act] rm_A D cA [.ref (ad 70), .int (nI 3), .int p0, .int p1, .int p2, .int p3] (rlW cA ad g z) (-7000003) (fun w => w = rlW cA ad g2 z2) := by
  refine q_startA RL (by decide +kernel) rfl (Nat.le_of_ble_eq_true rfl) ?_
  intro p e s m below meth c A args H locs ls hx hb hr hml hown hT hlk hP hK hD hA hS hl htb hX hN hZ
  have hl : lv_has ls 7 [(0, .ref (ad 70)), (1, .int (nI 3)), (2, .int p0), (3, .int p1), (4, .int p2), (5, .int p3)] := hl
  refine ac_3 hx hb hl ?_
  refine lv_aload_n hx hb dL_act_69 rfl (lv_at hl 0 rfl) ?_
  refine lv_iload_n hx hb dL_act_70 rfl (lv_at hl 2 rfl) ?_
  refine lv_iload_n hx hb dL_act_71 rfl (lv_at hl 3 rfl) ?_
  refine lv_iload hx hb dL_act_72 (lv_at hl 4 rfl) ?_
  refine q_callXC (As := [.int p0, .int p1, .int p2]) (w1 := rlW cA ad g2 z2) (name := "java/lang/IllegalStateException") hx hb hml hown hT hK hP hD hS hA  hX hZ hM k_X5_ahead kl_L_21 (q0 := 0) rfl rfl rfl ((rlW_adr _ _ _ _).trans (rlW_adr _ _ _ _).symm) hl rfl rfl (Nat.le_of_ble_eq_true rfl) ⟨⟨hrm.1, hrm.2.1⟩, (by show rm.frames + 1 ≤ 9; omega), (by show 8 + (5 + 11) + rm.locals ≤ 180; omega)⟩ ⟨Nat.le_of_ble_eq_true rfl, Nat.le_of_ble_eq_true rfl⟩ dL_act_74 [⟨0, 419, 420, 88⟩, ⟨0, 419, 425, 91⟩] ⟨0, 419, 430, 94⟩ [] htb (fun z hz => Or.inr (by rcases List.mem_cons.mp hz with h9 | h9; (rw [h9]; exact ⟨by decide, _, hT.use kx_L_88 args, hN.2.1⟩); (rw [List.mem_singleton.mp h9]; exact ⟨by decide, _, hT.use kx_L_91 args, hN.2.2⟩))) (by decide) (by decide) kx_L_94 q_cast_ise (fun q9 H locs hP hD hS => ?_)
  refine lv_astore (lv' := [(6, .ref q9), (0, .ref (ad 70)), (1, .int (nI 3)), (2, .int p0), (3, .int p1), (4, .int p2), (5, .int p3)]) hx hb dL_act_430 hl (by decide) rfl (fun ls hl => ?_)
  refine lv_ldc (v := -7000003) hx hb hown (hT.use kk_L_96 args) dL_act_432 ?_
  exact q_lret hx hb hr hlk rfl rfl hP hS (by decide) (by decide) dL_act_434
set_option maxRecDepth 100000 in
set_option maxHeartbeats 4000000 in
theorem ao_find (l : Launch) (D : va_G) (cA : ClassId) (ad : Nat → Nat) (g g2 : Nat → Nat → Int32) (z z2 : Nat → Nat) (p0 p1 p2 p3 : Int32) (rm : Room) (r : Int32) (hrm : rm.cells = 0 ∧ rm.slots = 0 ∧ rm.frames ≤ 8 ∧ rm.locals ≤ 139) (hM : q_CI l yX5_find [Cond.code yX5_find cX5_find 5 (some .int)] rm D cA (.ref (ad 70) :: [.int p0, .int p1, .int p2]) (rlW cA ad g z) r (rlW cA ad g2 z2)) : q_CL l yL_act [Cond.codeWith yL_act cL_act 7 (some .int) hh_act] rm_A D cA [.ref (ad 70), .int (nI 4), .int p0, .int p1, .int p2, .int p3] (rlW cA ad g z) r (fun w => w = rlW cA ad g2 z2) := by
  refine q_startA RL (by decide +kernel) rfl (Nat.le_of_ble_eq_true rfl) ?_
  intro p e s m below meth c A args H locs ls hx hb hr hml hown hT hlk hP hK hD hA hS hl htb hX hN hZ
  have hl : lv_has ls 7 [(0, .ref (ad 70)), (1, .int (nI 4)), (2, .int p0), (3, .int p1), (4, .int p2), (5, .int p3)] := hl
  refine ac_4 hx hb hl ?_
  refine lv_aload_n hx hb dL_act_85 rfl (lv_at hl 0 rfl) ?_
  refine lv_iload_n hx hb dL_act_86 rfl (lv_at hl 2 rfl) ?_
  refine lv_iload_n hx hb dL_act_87 rfl (lv_at hl 3 rfl) ?_
  refine lv_iload hx hb dL_act_88 (lv_at hl 4 rfl) ?_
  refine q_callIW (As := [.int p0, .int p1, .int p2]) (r := r) (w1 := rlW cA ad g2 z2) hx hb hml hown hT hK hP hD hS hA  hM k_X5_find kl_L_25 (q0 := 0) rfl rfl rfl ((rlW_adr _ _ _ _).trans (rlW_adr _ _ _ _).symm) hl rfl rfl (Nat.le_of_ble_eq_true rfl) ⟨⟨hrm.1, hrm.2.1⟩, (by show rm.frames + 1 ≤ 9; omega), (by show 8 + (5 + 11) + rm.locals ≤ 180; omega)⟩ ⟨Nat.zero_le _, Nat.zero_le _⟩ dL_act_90 (fun H locs hP hD hS => ?_)
  refine lv_goto (tgt := 419) hx hb dL_act_93 (by decide) ?_
  exact q_lret hx hb hr hlk rfl rfl hP hS (by decide) (by decide) dL_act_419
set_option maxRecDepth 100000 in
set_option maxHeartbeats 4000000 in
theorem ax_find_iob (l : Launch) (D : va_G) (cA : ClassId) (ad : Nat → Nat) (g g2 : Nat → Nat → Int32) (z z2 : Nat → Nat) (p0 p1 p2 p3 : Int32) (rm : Room) (hrm : rm.cells = 1 ∧ rm.slots = 6 ∧ rm.frames ≤ 8 ∧ rm.locals ≤ 139) (hM : q_CX l yX5_find [Cond.code yX5_find cX5_find 5 (some .int)] rm D cA (.ref (ad 70) :: [.int p0, .int p1, .int p2]) (rlW cA ad g z) "java/lang/IndexOutOfBoundsException" (rlW cA ad g2 z2)) : q_CL l yL_act [Cond.codeWith yL_act cL_act 7 (some .int) hh_act] rm_A D cA [.ref (ad 70), .int (nI 4), .int p0, .int p1, .int p2, .int p3] (rlW cA ad g z) (-7000001) (fun w => w = rlW cA ad g2 z2) := by
  refine q_startA RL (by decide +kernel) rfl (Nat.le_of_ble_eq_true rfl) ?_
  intro p e s m below meth c A args H locs ls hx hb hr hml hown hT hlk hP hK hD hA hS hl htb hX hN hZ
  have hl : lv_has ls 7 [(0, .ref (ad 70)), (1, .int (nI 4)), (2, .int p0), (3, .int p1), (4, .int p2), (5, .int p3)] := hl
  refine ac_4 hx hb hl ?_
  refine lv_aload_n hx hb dL_act_85 rfl (lv_at hl 0 rfl) ?_
  refine lv_iload_n hx hb dL_act_86 rfl (lv_at hl 2 rfl) ?_
  refine lv_iload_n hx hb dL_act_87 rfl (lv_at hl 3 rfl) ?_
  refine lv_iload hx hb dL_act_88 (lv_at hl 4 rfl) ?_
  refine q_callXC (As := [.int p0, .int p1, .int p2]) (w1 := rlW cA ad g2 z2) (name := "java/lang/IndexOutOfBoundsException") hx hb hml hown hT hK hP hD hS hA  hX hZ hM k_X5_find kl_L_25 (q0 := 0) rfl rfl rfl ((rlW_adr _ _ _ _).trans (rlW_adr _ _ _ _).symm) hl rfl rfl (Nat.le_of_ble_eq_true rfl) ⟨⟨hrm.1, hrm.2.1⟩, (by show rm.frames + 1 ≤ 9; omega), (by show 8 + (5 + 11) + rm.locals ≤ 180; omega)⟩ ⟨Nat.le_of_ble_eq_true rfl, Nat.le_of_ble_eq_true rfl⟩ dL_act_90 [] ⟨0, 419, 420, 88⟩ [⟨0, 419, 425, 91⟩, ⟨0, 419, 430, 94⟩] htb (fun z hz => absurd hz List.not_mem_nil) (by decide) (by decide) kx_L_88 q_cast_iob (fun q9 H locs hP hD hS => ?_)
  refine lv_astore (lv' := [(6, .ref q9), (0, .ref (ad 70)), (1, .int (nI 4)), (2, .int p0), (3, .int p1), (4, .int p2), (5, .int p3)]) hx hb dL_act_420 hl (by decide) rfl (fun ls hl => ?_)
  refine lv_ldc (v := -7000001) hx hb hown (hT.use kk_L_90 args) dL_act_422 ?_
  exact q_lret hx hb hr hlk rfl rfl hP hS (by decide) (by decide) dL_act_424
set_option maxRecDepth 100000 in
set_option maxHeartbeats 4000000 in
theorem ax_find_iae (l : Launch) (D : va_G) (cA : ClassId) (ad : Nat → Nat) (g g2 : Nat → Nat → Int32) (z z2 : Nat → Nat) (p0 p1 p2 p3 : Int32) (rm : Room) (hrm : rm.cells = 1 ∧ rm.slots = 6 ∧ rm.frames ≤ 8 ∧ rm.locals ≤ 139) (hM : q_CX l yX5_find [Cond.code yX5_find cX5_find 5 (some .int)] rm D cA (.ref (ad 70) :: [.int p0, .int p1, .int p2]) (rlW cA ad g z) "java/lang/IllegalArgumentException" (rlW cA ad g2 z2)) : q_CL l yL_act [Cond.codeWith yL_act cL_act 7 (some .int) hh_act] rm_A D cA [.ref (ad 70), .int (nI 4), .int p0, .int p1, .int p2, .int p3] (rlW cA ad g z) (-7000002) (fun w => w = rlW cA ad g2 z2) := by
  refine q_startA RL (by decide +kernel) rfl (Nat.le_of_ble_eq_true rfl) ?_
  intro p e s m below meth c A args H locs ls hx hb hr hml hown hT hlk hP hK hD hA hS hl htb hX hN hZ
  have hl : lv_has ls 7 [(0, .ref (ad 70)), (1, .int (nI 4)), (2, .int p0), (3, .int p1), (4, .int p2), (5, .int p3)] := hl
  refine ac_4 hx hb hl ?_
  refine lv_aload_n hx hb dL_act_85 rfl (lv_at hl 0 rfl) ?_
  refine lv_iload_n hx hb dL_act_86 rfl (lv_at hl 2 rfl) ?_
  refine lv_iload_n hx hb dL_act_87 rfl (lv_at hl 3 rfl) ?_
  refine lv_iload hx hb dL_act_88 (lv_at hl 4 rfl) ?_
  refine q_callXC (As := [.int p0, .int p1, .int p2]) (w1 := rlW cA ad g2 z2) (name := "java/lang/IllegalArgumentException") hx hb hml hown hT hK hP hD hS hA  hX hZ hM k_X5_find kl_L_25 (q0 := 0) rfl rfl rfl ((rlW_adr _ _ _ _).trans (rlW_adr _ _ _ _).symm) hl rfl rfl (Nat.le_of_ble_eq_true rfl) ⟨⟨hrm.1, hrm.2.1⟩, (by show rm.frames + 1 ≤ 9; omega), (by show 8 + (5 + 11) + rm.locals ≤ 180; omega)⟩ ⟨Nat.le_of_ble_eq_true rfl, Nat.le_of_ble_eq_true rfl⟩ dL_act_90 [⟨0, 419, 420, 88⟩] ⟨0, 419, 425, 91⟩ [⟨0, 419, 430, 94⟩] htb (fun z hz => Or.inr (by rw [List.mem_singleton.mp hz]; exact ⟨by decide, _, hT.use kx_L_88 args, hN.1⟩)) (by decide) (by decide) kx_L_91 q_cast_iae (fun q9 H locs hP hD hS => ?_)
  refine lv_astore (lv' := [(6, .ref q9), (0, .ref (ad 70)), (1, .int (nI 4)), (2, .int p0), (3, .int p1), (4, .int p2), (5, .int p3)]) hx hb dL_act_425 hl (by decide) rfl (fun ls hl => ?_)
  refine lv_ldc (v := -7000002) hx hb hown (hT.use kk_L_93 args) dL_act_427 ?_
  exact q_lret hx hb hr hlk rfl rfl hP hS (by decide) (by decide) dL_act_429
set_option maxRecDepth 100000 in
set_option maxHeartbeats 4000000 in
theorem ax_find_ise (l : Launch) (D : va_G) (cA : ClassId) (ad : Nat → Nat) (g g2 : Nat → Nat → Int32) (z z2 : Nat → Nat) (p0 p1 p2 p3 : Int32) (rm : Room) (hrm : rm.cells = 1 ∧ rm.slots = 6 ∧ rm.frames ≤ 8 ∧ rm.locals ≤ 139) (hM : q_CX l yX5_find [Cond.code yX5_find cX5_find 5 (some .int)] rm D cA (.ref (ad 70) :: [.int p0, .int p1, .int p2]) (rlW cA ad g z) "java/lang/IllegalStateException" (rlW cA ad g2 z2)) : q_CL l yL_act [Cond.codeWith yL_act cL_act 7 (some .int) hh_act] rm_A D cA [.ref (ad 70), .int (nI 4), .int p0, .int p1, .int p2, .int p3] (rlW cA ad g z) (-7000003) (fun w => w = rlW cA ad g2 z2) := by
  refine q_startA RL (by decide +kernel) rfl (Nat.le_of_ble_eq_true rfl) ?_
  intro p e s m below meth c A args H locs ls hx hb hr hml hown hT hlk hP hK hD hA hS hl htb hX hN hZ
  have hl : lv_has ls 7 [(0, .ref (ad 70)), (1, .int (nI 4)), (2, .int p0), (3, .int p1), (4, .int p2), (5, .int p3)] := hl
  refine ac_4 hx hb hl ?_
  refine lv_aload_n hx hb dL_act_85 rfl (lv_at hl 0 rfl) ?_
  refine lv_iload_n hx hb dL_act_86 rfl (lv_at hl 2 rfl) ?_
  refine lv_iload_n hx hb dL_act_87 rfl (lv_at hl 3 rfl) ?_
  refine lv_iload hx hb dL_act_88 (lv_at hl 4 rfl) ?_
  refine q_callXC (As := [.int p0, .int p1, .int p2]) (w1 := rlW cA ad g2 z2) (name := "java/lang/IllegalStateException") hx hb hml hown hT hK hP hD hS hA  hX hZ hM k_X5_find kl_L_25 (q0 := 0) rfl rfl rfl ((rlW_adr _ _ _ _).trans (rlW_adr _ _ _ _).symm) hl rfl rfl (Nat.le_of_ble_eq_true rfl) ⟨⟨hrm.1, hrm.2.1⟩, (by show rm.frames + 1 ≤ 9; omega), (by show 8 + (5 + 11) + rm.locals ≤ 180; omega)⟩ ⟨Nat.le_of_ble_eq_true rfl, Nat.le_of_ble_eq_true rfl⟩ dL_act_90 [⟨0, 419, 420, 88⟩, ⟨0, 419, 425, 91⟩] ⟨0, 419, 430, 94⟩ [] htb (fun z hz => Or.inr (by rcases List.mem_cons.mp hz with h9 | h9; (rw [h9]; exact ⟨by decide, _, hT.use kx_L_88 args, hN.2.1⟩); (rw [List.mem_singleton.mp h9]; exact ⟨by decide, _, hT.use kx_L_91 args, hN.2.2⟩))) (by decide) (by decide) kx_L_94 q_cast_ise (fun q9 H locs hP hD hS => ?_)
  refine lv_astore (lv' := [(6, .ref q9), (0, .ref (ad 70)), (1, .int (nI 4)), (2, .int p0), (3, .int p1), (4, .int p2), (5, .int p3)]) hx hb dL_act_430 hl (by decide) rfl (fun ls hl => ?_)
  refine lv_ldc (v := -7000003) hx hb hown (hT.use kk_L_96 args) dL_act_432 ?_
  exact q_lret hx hb hr hlk rfl rfl hP hS (by decide) (by decide) dL_act_434
set_option maxRecDepth 100000 in
set_option maxHeartbeats 4000000 in
theorem ao_wouldMove (l : Launch) (D : va_G) (cA : ClassId) (ad : Nat → Nat) (g g2 : Nat → Nat → Int32) (z z2 : Nat → Nat) (p0 p1 p2 p3 : Int32) (rm : Room) (r : Int32) (hrm : rm.cells = 0 ∧ rm.slots = 0 ∧ rm.frames ≤ 8 ∧ rm.locals ≤ 139) (hM : q_CI l yX5_wouldMove [Cond.code yX5_wouldMove cX5_wouldMove 4 (some .int)] rm D cA (.ref (ad 70) :: [.int p0, .int p1, .int p2]) (rlW cA ad g z) r (rlW cA ad g2 z2)) : q_CL l yL_act [Cond.codeWith yL_act cL_act 7 (some .int) hh_act] rm_A D cA [.ref (ad 70), .int (nI 5), .int p0, .int p1, .int p2, .int p3] (rlW cA ad g z) r (fun w => w = rlW cA ad g2 z2) := by
  refine q_startA RL (by decide +kernel) rfl (Nat.le_of_ble_eq_true rfl) ?_
  intro p e s m below meth c A args H locs ls hx hb hr hml hown hT hlk hP hK hD hA hS hl htb hX hN hZ
  have hl : lv_has ls 7 [(0, .ref (ad 70)), (1, .int (nI 5)), (2, .int p0), (3, .int p1), (4, .int p2), (5, .int p3)] := hl
  refine ac_5 hx hb hl ?_
  refine lv_aload_n hx hb dL_act_101 rfl (lv_at hl 0 rfl) ?_
  refine lv_iload_n hx hb dL_act_102 rfl (lv_at hl 2 rfl) ?_
  refine lv_iload_n hx hb dL_act_103 rfl (lv_at hl 3 rfl) ?_
  refine lv_iload hx hb dL_act_104 (lv_at hl 4 rfl) ?_
  refine q_callIW (As := [.int p0, .int p1, .int p2]) (r := r) (w1 := rlW cA ad g2 z2) hx hb hml hown hT hK hP hD hS hA  hM k_X5_wouldMove kl_L_28 (q0 := 0) rfl rfl rfl ((rlW_adr _ _ _ _).trans (rlW_adr _ _ _ _).symm) hl rfl rfl (Nat.le_of_ble_eq_true rfl) ⟨⟨hrm.1, hrm.2.1⟩, (by show rm.frames + 1 ≤ 9; omega), (by show 8 + (4 + 11) + rm.locals ≤ 180; omega)⟩ ⟨Nat.zero_le _, Nat.zero_le _⟩ dL_act_106 (fun H locs hP hD hS => ?_)
  refine lv_goto (tgt := 419) hx hb dL_act_109 (by decide) ?_
  exact q_lret hx hb hr hlk rfl rfl hP hS (by decide) (by decide) dL_act_419
set_option maxRecDepth 100000 in
set_option maxHeartbeats 4000000 in
theorem ax_wouldMove_iob (l : Launch) (D : va_G) (cA : ClassId) (ad : Nat → Nat) (g g2 : Nat → Nat → Int32) (z z2 : Nat → Nat) (p0 p1 p2 p3 : Int32) (rm : Room) (hrm : rm.cells = 1 ∧ rm.slots = 6 ∧ rm.frames ≤ 8 ∧ rm.locals ≤ 139) (hM : q_CX l yX5_wouldMove [Cond.code yX5_wouldMove cX5_wouldMove 4 (some .int)] rm D cA (.ref (ad 70) :: [.int p0, .int p1, .int p2]) (rlW cA ad g z) "java/lang/IndexOutOfBoundsException" (rlW cA ad g2 z2)) : q_CL l yL_act [Cond.codeWith yL_act cL_act 7 (some .int) hh_act] rm_A D cA [.ref (ad 70), .int (nI 5), .int p0, .int p1, .int p2, .int p3] (rlW cA ad g z) (-7000001) (fun w => w = rlW cA ad g2 z2) := by
  refine q_startA RL (by decide +kernel) rfl (Nat.le_of_ble_eq_true rfl) ?_
  intro p e s m below meth c A args H locs ls hx hb hr hml hown hT hlk hP hK hD hA hS hl htb hX hN hZ
  have hl : lv_has ls 7 [(0, .ref (ad 70)), (1, .int (nI 5)), (2, .int p0), (3, .int p1), (4, .int p2), (5, .int p3)] := hl
  refine ac_5 hx hb hl ?_
  refine lv_aload_n hx hb dL_act_101 rfl (lv_at hl 0 rfl) ?_
  refine lv_iload_n hx hb dL_act_102 rfl (lv_at hl 2 rfl) ?_
  refine lv_iload_n hx hb dL_act_103 rfl (lv_at hl 3 rfl) ?_
  refine lv_iload hx hb dL_act_104 (lv_at hl 4 rfl) ?_
  refine q_callXC (As := [.int p0, .int p1, .int p2]) (w1 := rlW cA ad g2 z2) (name := "java/lang/IndexOutOfBoundsException") hx hb hml hown hT hK hP hD hS hA  hX hZ hM k_X5_wouldMove kl_L_28 (q0 := 0) rfl rfl rfl ((rlW_adr _ _ _ _).trans (rlW_adr _ _ _ _).symm) hl rfl rfl (Nat.le_of_ble_eq_true rfl) ⟨⟨hrm.1, hrm.2.1⟩, (by show rm.frames + 1 ≤ 9; omega), (by show 8 + (4 + 11) + rm.locals ≤ 180; omega)⟩ ⟨Nat.le_of_ble_eq_true rfl, Nat.le_of_ble_eq_true rfl⟩ dL_act_106 [] ⟨0, 419, 420, 88⟩ [⟨0, 419, 425, 91⟩, ⟨0, 419, 430, 94⟩] htb (fun z hz => absurd hz List.not_mem_nil) (by decide) (by decide) kx_L_88 q_cast_iob (fun q9 H locs hP hD hS => ?_)
  refine lv_astore (lv' := [(6, .ref q9), (0, .ref (ad 70)), (1, .int (nI 5)), (2, .int p0), (3, .int p1), (4, .int p2), (5, .int p3)]) hx hb dL_act_420 hl (by decide) rfl (fun ls hl => ?_)
  refine lv_ldc (v := -7000001) hx hb hown (hT.use kk_L_90 args) dL_act_422 ?_
  exact q_lret hx hb hr hlk rfl rfl hP hS (by decide) (by decide) dL_act_424
set_option maxRecDepth 100000 in
set_option maxHeartbeats 4000000 in
theorem ax_wouldMove_iae (l : Launch) (D : va_G) (cA : ClassId) (ad : Nat → Nat) (g g2 : Nat → Nat → Int32) (z z2 : Nat → Nat) (p0 p1 p2 p3 : Int32) (rm : Room) (hrm : rm.cells = 1 ∧ rm.slots = 6 ∧ rm.frames ≤ 8 ∧ rm.locals ≤ 139) (hM : q_CX l yX5_wouldMove [Cond.code yX5_wouldMove cX5_wouldMove 4 (some .int)] rm D cA (.ref (ad 70) :: [.int p0, .int p1, .int p2]) (rlW cA ad g z) "java/lang/IllegalArgumentException" (rlW cA ad g2 z2)) : q_CL l yL_act [Cond.codeWith yL_act cL_act 7 (some .int) hh_act] rm_A D cA [.ref (ad 70), .int (nI 5), .int p0, .int p1, .int p2, .int p3] (rlW cA ad g z) (-7000002) (fun w => w = rlW cA ad g2 z2) := by
  refine q_startA RL (by decide +kernel) rfl (Nat.le_of_ble_eq_true rfl) ?_
  intro p e s m below meth c A args H locs ls hx hb hr hml hown hT hlk hP hK hD hA hS hl htb hX hN hZ
  have hl : lv_has ls 7 [(0, .ref (ad 70)), (1, .int (nI 5)), (2, .int p0), (3, .int p1), (4, .int p2), (5, .int p3)] := hl
  refine ac_5 hx hb hl ?_
  refine lv_aload_n hx hb dL_act_101 rfl (lv_at hl 0 rfl) ?_
  refine lv_iload_n hx hb dL_act_102 rfl (lv_at hl 2 rfl) ?_
  refine lv_iload_n hx hb dL_act_103 rfl (lv_at hl 3 rfl) ?_
  refine lv_iload hx hb dL_act_104 (lv_at hl 4 rfl) ?_
  refine q_callXC (As := [.int p0, .int p1, .int p2]) (w1 := rlW cA ad g2 z2) (name := "java/lang/IllegalArgumentException") hx hb hml hown hT hK hP hD hS hA  hX hZ hM k_X5_wouldMove kl_L_28 (q0 := 0) rfl rfl rfl ((rlW_adr _ _ _ _).trans (rlW_adr _ _ _ _).symm) hl rfl rfl (Nat.le_of_ble_eq_true rfl) ⟨⟨hrm.1, hrm.2.1⟩, (by show rm.frames + 1 ≤ 9; omega), (by show 8 + (4 + 11) + rm.locals ≤ 180; omega)⟩ ⟨Nat.le_of_ble_eq_true rfl, Nat.le_of_ble_eq_true rfl⟩ dL_act_106 [⟨0, 419, 420, 88⟩] ⟨0, 419, 425, 91⟩ [⟨0, 419, 430, 94⟩] htb (fun z hz => Or.inr (by rw [List.mem_singleton.mp hz]; exact ⟨by decide, _, hT.use kx_L_88 args, hN.1⟩)) (by decide) (by decide) kx_L_91 q_cast_iae (fun q9 H locs hP hD hS => ?_)
  refine lv_astore (lv' := [(6, .ref q9), (0, .ref (ad 70)), (1, .int (nI 5)), (2, .int p0), (3, .int p1), (4, .int p2), (5, .int p3)]) hx hb dL_act_425 hl (by decide) rfl (fun ls hl => ?_)
  refine lv_ldc (v := -7000002) hx hb hown (hT.use kk_L_93 args) dL_act_427 ?_
  exact q_lret hx hb hr hlk rfl rfl hP hS (by decide) (by decide) dL_act_429
set_option maxRecDepth 100000 in
set_option maxHeartbeats 4000000 in
theorem ao_year (l : Launch) (D : va_G) (cA : ClassId) (ad : Nat → Nat) (g g2 : Nat → Nat → Int32) (z z2 : Nat → Nat) (p0 p1 p2 p3 : Int32) (rm : Room) (r : Int32) (hrm : rm.cells = 0 ∧ rm.slots = 0 ∧ rm.frames ≤ 8 ∧ rm.locals ≤ 139) (hM : q_CI l yX5_year [Cond.code yX5_year cX5_year 3 (some .int)] rm D cA (.ref (ad 70) :: [.int p0, .int (q_b (decide (p1 = nI 1)))]) (rlW cA ad g z) r (rlW cA ad g2 z2)) : q_CL l yL_act [Cond.codeWith yL_act cL_act 7 (some .int) hh_act] rm_A D cA [.ref (ad 70), .int (nI 6), .int p0, .int p1, .int p2, .int p3] (rlW cA ad g z) r (fun w => w = rlW cA ad g2 z2) := by
  refine q_startA RL (by decide +kernel) rfl (Nat.le_of_ble_eq_true rfl) ?_
  intro p e s m below meth c A args H locs ls hx hb hr hml hown hT hlk hP hK hD hA hS hl htb hX hN hZ
  have hl : lv_has ls 7 [(0, .ref (ad 70)), (1, .int (nI 6)), (2, .int p0), (3, .int p1), (4, .int p2), (5, .int p3)] := hl
  refine ac_6 hx hb hl ?_
  refine lv_aload_n hx hb dL_act_118 rfl (lv_at hl 0 rfl) ?_
  refine lv_iload_n hx hb dL_act_119 rfl (lv_at hl 2 rfl) ?_
  refine lv_iload_n hx hb dL_act_120 rfl (lv_at hl 3 rfl) ?_
  refine lv_iconst (v := nI 1) hx hb dL_act_121 (by decide +kernel) ?_
  refine lv_icmp_ne (tgt := 129) hx hb dL_act_122 (by decide) (fun c9 => ?_) (fun c9 => ?_)
  · have e9 : q_b (decide (p1 = nI 1)) = nI 0 := by rw [decide_eq_false c9]; rfl
    rw [e9] at hM
    refine lv_iconst (v := nI 0) hx hb dL_act_129 (by decide +kernel) ?_
    refine q_callIW (As := [.int p0, .int (nI 0)]) (r := r) (w1 := rlW cA ad g2 z2) hx hb hml hown hT hK hP hD hS hA  hM k_X5_year kl_L_31 (q0 := 0) rfl rfl rfl ((rlW_adr _ _ _ _).trans (rlW_adr _ _ _ _).symm) hl rfl rfl (Nat.le_of_ble_eq_true rfl) ⟨⟨hrm.1, hrm.2.1⟩, (by show rm.frames + 1 ≤ 9; omega), (by show 8 + (3 + 11) + rm.locals ≤ 180; omega)⟩ ⟨Nat.zero_le _, Nat.zero_le _⟩ dL_act_130 (fun H locs hP hD hS => ?_)
    refine lv_goto (tgt := 419) hx hb dL_act_133 (by decide) ?_
    exact q_lret hx hb hr hlk rfl rfl hP hS (by decide) (by decide) dL_act_419
  · have e9 : q_b (decide (p1 = nI 1)) = nI 1 := by rw [decide_eq_true c9]; rfl
    rw [e9] at hM
    refine lv_iconst (v := nI 1) hx hb dL_act_125 (by decide +kernel) ?_
    refine lv_goto (tgt := 130) hx hb dL_act_126 (by decide) ?_
    refine q_callIW (As := [.int p0, .int (nI 1)]) (r := r) (w1 := rlW cA ad g2 z2) hx hb hml hown hT hK hP hD hS hA  hM k_X5_year kl_L_31 (q0 := 0) rfl rfl rfl ((rlW_adr _ _ _ _).trans (rlW_adr _ _ _ _).symm) hl rfl rfl (Nat.le_of_ble_eq_true rfl) ⟨⟨hrm.1, hrm.2.1⟩, (by show rm.frames + 1 ≤ 9; omega), (by show 8 + (3 + 11) + rm.locals ≤ 180; omega)⟩ ⟨Nat.zero_le _, Nat.zero_le _⟩ dL_act_130 (fun H locs hP hD hS => ?_)
    refine lv_goto (tgt := 419) hx hb dL_act_133 (by decide) ?_
    exact q_lret hx hb hr hlk rfl rfl hP hS (by decide) (by decide) dL_act_419
set_option maxRecDepth 100000 in
set_option maxHeartbeats 4000000 in
theorem ax_year_iob (l : Launch) (D : va_G) (cA : ClassId) (ad : Nat → Nat) (g g2 : Nat → Nat → Int32) (z z2 : Nat → Nat) (p0 p1 p2 p3 : Int32) (rm : Room) (hrm : rm.cells = 1 ∧ rm.slots = 6 ∧ rm.frames ≤ 8 ∧ rm.locals ≤ 139) (hM : q_CX l yX5_year [Cond.code yX5_year cX5_year 3 (some .int)] rm D cA (.ref (ad 70) :: [.int p0, .int (q_b (decide (p1 = nI 1)))]) (rlW cA ad g z) "java/lang/IndexOutOfBoundsException" (rlW cA ad g2 z2)) : q_CL l yL_act [Cond.codeWith yL_act cL_act 7 (some .int) hh_act] rm_A D cA [.ref (ad 70), .int (nI 6), .int p0, .int p1, .int p2, .int p3] (rlW cA ad g z) (-7000001) (fun w => w = rlW cA ad g2 z2) := by
  refine q_startA RL (by decide +kernel) rfl (Nat.le_of_ble_eq_true rfl) ?_
  intro p e s m below meth c A args H locs ls hx hb hr hml hown hT hlk hP hK hD hA hS hl htb hX hN hZ
  have hl : lv_has ls 7 [(0, .ref (ad 70)), (1, .int (nI 6)), (2, .int p0), (3, .int p1), (4, .int p2), (5, .int p3)] := hl
  refine ac_6 hx hb hl ?_
  refine lv_aload_n hx hb dL_act_118 rfl (lv_at hl 0 rfl) ?_
  refine lv_iload_n hx hb dL_act_119 rfl (lv_at hl 2 rfl) ?_
  refine lv_iload_n hx hb dL_act_120 rfl (lv_at hl 3 rfl) ?_
  refine lv_iconst (v := nI 1) hx hb dL_act_121 (by decide +kernel) ?_
  refine lv_icmp_ne (tgt := 129) hx hb dL_act_122 (by decide) (fun c9 => ?_) (fun c9 => ?_)
  · have e9 : q_b (decide (p1 = nI 1)) = nI 0 := by rw [decide_eq_false c9]; rfl
    rw [e9] at hM
    refine lv_iconst (v := nI 0) hx hb dL_act_129 (by decide +kernel) ?_
    refine q_callXC (As := [.int p0, .int (nI 0)]) (w1 := rlW cA ad g2 z2) (name := "java/lang/IndexOutOfBoundsException") hx hb hml hown hT hK hP hD hS hA  hX hZ hM k_X5_year kl_L_31 (q0 := 0) rfl rfl rfl ((rlW_adr _ _ _ _).trans (rlW_adr _ _ _ _).symm) hl rfl rfl (Nat.le_of_ble_eq_true rfl) ⟨⟨hrm.1, hrm.2.1⟩, (by show rm.frames + 1 ≤ 9; omega), (by show 8 + (3 + 11) + rm.locals ≤ 180; omega)⟩ ⟨Nat.le_of_ble_eq_true rfl, Nat.le_of_ble_eq_true rfl⟩ dL_act_130 [] ⟨0, 419, 420, 88⟩ [⟨0, 419, 425, 91⟩, ⟨0, 419, 430, 94⟩] htb (fun z hz => absurd hz List.not_mem_nil) (by decide) (by decide) kx_L_88 q_cast_iob (fun q9 H locs hP hD hS => ?_)
    refine lv_astore (lv' := [(6, .ref q9), (0, .ref (ad 70)), (1, .int (nI 6)), (2, .int p0), (3, .int p1), (4, .int p2), (5, .int p3)]) hx hb dL_act_420 hl (by decide) rfl (fun ls hl => ?_)
    refine lv_ldc (v := -7000001) hx hb hown (hT.use kk_L_90 args) dL_act_422 ?_
    exact q_lret hx hb hr hlk rfl rfl hP hS (by decide) (by decide) dL_act_424
  · have e9 : q_b (decide (p1 = nI 1)) = nI 1 := by rw [decide_eq_true c9]; rfl
    rw [e9] at hM
    refine lv_iconst (v := nI 1) hx hb dL_act_125 (by decide +kernel) ?_
    refine lv_goto (tgt := 130) hx hb dL_act_126 (by decide) ?_
    refine q_callXC (As := [.int p0, .int (nI 1)]) (w1 := rlW cA ad g2 z2) (name := "java/lang/IndexOutOfBoundsException") hx hb hml hown hT hK hP hD hS hA  hX hZ hM k_X5_year kl_L_31 (q0 := 0) rfl rfl rfl ((rlW_adr _ _ _ _).trans (rlW_adr _ _ _ _).symm) hl rfl rfl (Nat.le_of_ble_eq_true rfl) ⟨⟨hrm.1, hrm.2.1⟩, (by show rm.frames + 1 ≤ 9; omega), (by show 8 + (3 + 11) + rm.locals ≤ 180; omega)⟩ ⟨Nat.le_of_ble_eq_true rfl, Nat.le_of_ble_eq_true rfl⟩ dL_act_130 [] ⟨0, 419, 420, 88⟩ [⟨0, 419, 425, 91⟩, ⟨0, 419, 430, 94⟩] htb (fun z hz => absurd hz List.not_mem_nil) (by decide) (by decide) kx_L_88 q_cast_iob (fun q9 H locs hP hD hS => ?_)
    refine lv_astore (lv' := [(6, .ref q9), (0, .ref (ad 70)), (1, .int (nI 6)), (2, .int p0), (3, .int p1), (4, .int p2), (5, .int p3)]) hx hb dL_act_420 hl (by decide) rfl (fun ls hl => ?_)
    refine lv_ldc (v := -7000001) hx hb hown (hT.use kk_L_90 args) dL_act_422 ?_
    exact q_lret hx hb hr hlk rfl rfl hP hS (by decide) (by decide) dL_act_424
set_option maxRecDepth 100000 in
set_option maxHeartbeats 4000000 in
theorem ao_yearAnew (l : Launch) (D : va_G) (cA : ClassId) (ad : Nat → Nat) (g g2 : Nat → Nat → Int32) (z z2 : Nat → Nat) (p0 p1 p2 p3 : Int32) (rm : Room) (r : Int32) (hrm : rm.cells = 0 ∧ rm.slots = 0 ∧ rm.frames ≤ 8 ∧ rm.locals ≤ 139) (hM : q_CI l yX5_yearAnew [Cond.code yX5_yearAnew cX5_yearAnew 3 (some .int)] rm D cA (.ref (ad 70) :: [.int p0, .int (q_b (decide (p1 = nI 1)))]) (rlW cA ad g z) r (rlW cA ad g2 z2)) : q_CL l yL_act [Cond.codeWith yL_act cL_act 7 (some .int) hh_act] rm_A D cA [.ref (ad 70), .int (nI 7), .int p0, .int p1, .int p2, .int p3] (rlW cA ad g z) r (fun w => w = rlW cA ad g2 z2) := by
  refine q_startA RL (by decide +kernel) rfl (Nat.le_of_ble_eq_true rfl) ?_
  intro p e s m below meth c A args H locs ls hx hb hr hml hown hT hlk hP hK hD hA hS hl htb hX hN hZ
  have hl : lv_has ls 7 [(0, .ref (ad 70)), (1, .int (nI 7)), (2, .int p0), (3, .int p1), (4, .int p2), (5, .int p3)] := hl
  refine ac_7 hx hb hl ?_
  refine lv_aload_n hx hb dL_act_142 rfl (lv_at hl 0 rfl) ?_
  refine lv_iload_n hx hb dL_act_143 rfl (lv_at hl 2 rfl) ?_
  refine lv_iload_n hx hb dL_act_144 rfl (lv_at hl 3 rfl) ?_
  refine lv_iconst (v := nI 1) hx hb dL_act_145 (by decide +kernel) ?_
  refine lv_icmp_ne (tgt := 153) hx hb dL_act_146 (by decide) (fun c9 => ?_) (fun c9 => ?_)
  · have e9 : q_b (decide (p1 = nI 1)) = nI 0 := by rw [decide_eq_false c9]; rfl
    rw [e9] at hM
    refine lv_iconst (v := nI 0) hx hb dL_act_153 (by decide +kernel) ?_
    refine q_callIW (As := [.int p0, .int (nI 0)]) (r := r) (w1 := rlW cA ad g2 z2) hx hb hml hown hT hK hP hD hS hA  hM k_X5_yearAnew kl_L_35 (q0 := 0) rfl rfl rfl ((rlW_adr _ _ _ _).trans (rlW_adr _ _ _ _).symm) hl rfl rfl (Nat.le_of_ble_eq_true rfl) ⟨⟨hrm.1, hrm.2.1⟩, (by show rm.frames + 1 ≤ 9; omega), (by show 8 + (3 + 11) + rm.locals ≤ 180; omega)⟩ ⟨Nat.zero_le _, Nat.zero_le _⟩ dL_act_154 (fun H locs hP hD hS => ?_)
    refine lv_goto (tgt := 419) hx hb dL_act_157 (by decide) ?_
    exact q_lret hx hb hr hlk rfl rfl hP hS (by decide) (by decide) dL_act_419
  · have e9 : q_b (decide (p1 = nI 1)) = nI 1 := by rw [decide_eq_true c9]; rfl
    rw [e9] at hM
    refine lv_iconst (v := nI 1) hx hb dL_act_149 (by decide +kernel) ?_
    refine lv_goto (tgt := 154) hx hb dL_act_150 (by decide) ?_
    refine q_callIW (As := [.int p0, .int (nI 1)]) (r := r) (w1 := rlW cA ad g2 z2) hx hb hml hown hT hK hP hD hS hA  hM k_X5_yearAnew kl_L_35 (q0 := 0) rfl rfl rfl ((rlW_adr _ _ _ _).trans (rlW_adr _ _ _ _).symm) hl rfl rfl (Nat.le_of_ble_eq_true rfl) ⟨⟨hrm.1, hrm.2.1⟩, (by show rm.frames + 1 ≤ 9; omega), (by show 8 + (3 + 11) + rm.locals ≤ 180; omega)⟩ ⟨Nat.zero_le _, Nat.zero_le _⟩ dL_act_154 (fun H locs hP hD hS => ?_)
    refine lv_goto (tgt := 419) hx hb dL_act_157 (by decide) ?_
    exact q_lret hx hb hr hlk rfl rfl hP hS (by decide) (by decide) dL_act_419
set_option maxRecDepth 100000 in
set_option maxHeartbeats 4000000 in
theorem ax_yearAnew_iob (l : Launch) (D : va_G) (cA : ClassId) (ad : Nat → Nat) (g g2 : Nat → Nat → Int32) (z z2 : Nat → Nat) (p0 p1 p2 p3 : Int32) (rm : Room) (hrm : rm.cells = 1 ∧ rm.slots = 6 ∧ rm.frames ≤ 8 ∧ rm.locals ≤ 139) (hM : q_CX l yX5_yearAnew [Cond.code yX5_yearAnew cX5_yearAnew 3 (some .int)] rm D cA (.ref (ad 70) :: [.int p0, .int (q_b (decide (p1 = nI 1)))]) (rlW cA ad g z) "java/lang/IndexOutOfBoundsException" (rlW cA ad g2 z2)) : q_CL l yL_act [Cond.codeWith yL_act cL_act 7 (some .int) hh_act] rm_A D cA [.ref (ad 70), .int (nI 7), .int p0, .int p1, .int p2, .int p3] (rlW cA ad g z) (-7000001) (fun w => w = rlW cA ad g2 z2) := by
  refine q_startA RL (by decide +kernel) rfl (Nat.le_of_ble_eq_true rfl) ?_
  intro p e s m below meth c A args H locs ls hx hb hr hml hown hT hlk hP hK hD hA hS hl htb hX hN hZ
  have hl : lv_has ls 7 [(0, .ref (ad 70)), (1, .int (nI 7)), (2, .int p0), (3, .int p1), (4, .int p2), (5, .int p3)] := hl
  refine ac_7 hx hb hl ?_
  refine lv_aload_n hx hb dL_act_142 rfl (lv_at hl 0 rfl) ?_
  refine lv_iload_n hx hb dL_act_143 rfl (lv_at hl 2 rfl) ?_
  refine lv_iload_n hx hb dL_act_144 rfl (lv_at hl 3 rfl) ?_
  refine lv_iconst (v := nI 1) hx hb dL_act_145 (by decide +kernel) ?_
  refine lv_icmp_ne (tgt := 153) hx hb dL_act_146 (by decide) (fun c9 => ?_) (fun c9 => ?_)
  · have e9 : q_b (decide (p1 = nI 1)) = nI 0 := by rw [decide_eq_false c9]; rfl
    rw [e9] at hM
    refine lv_iconst (v := nI 0) hx hb dL_act_153 (by decide +kernel) ?_
    refine q_callXC (As := [.int p0, .int (nI 0)]) (w1 := rlW cA ad g2 z2) (name := "java/lang/IndexOutOfBoundsException") hx hb hml hown hT hK hP hD hS hA  hX hZ hM k_X5_yearAnew kl_L_35 (q0 := 0) rfl rfl rfl ((rlW_adr _ _ _ _).trans (rlW_adr _ _ _ _).symm) hl rfl rfl (Nat.le_of_ble_eq_true rfl) ⟨⟨hrm.1, hrm.2.1⟩, (by show rm.frames + 1 ≤ 9; omega), (by show 8 + (3 + 11) + rm.locals ≤ 180; omega)⟩ ⟨Nat.le_of_ble_eq_true rfl, Nat.le_of_ble_eq_true rfl⟩ dL_act_154 [] ⟨0, 419, 420, 88⟩ [⟨0, 419, 425, 91⟩, ⟨0, 419, 430, 94⟩] htb (fun z hz => absurd hz List.not_mem_nil) (by decide) (by decide) kx_L_88 q_cast_iob (fun q9 H locs hP hD hS => ?_)
    refine lv_astore (lv' := [(6, .ref q9), (0, .ref (ad 70)), (1, .int (nI 7)), (2, .int p0), (3, .int p1), (4, .int p2), (5, .int p3)]) hx hb dL_act_420 hl (by decide) rfl (fun ls hl => ?_)
    refine lv_ldc (v := -7000001) hx hb hown (hT.use kk_L_90 args) dL_act_422 ?_
    exact q_lret hx hb hr hlk rfl rfl hP hS (by decide) (by decide) dL_act_424
  · have e9 : q_b (decide (p1 = nI 1)) = nI 1 := by rw [decide_eq_true c9]; rfl
    rw [e9] at hM
    refine lv_iconst (v := nI 1) hx hb dL_act_149 (by decide +kernel) ?_
    refine lv_goto (tgt := 154) hx hb dL_act_150 (by decide) ?_
    refine q_callXC (As := [.int p0, .int (nI 1)]) (w1 := rlW cA ad g2 z2) (name := "java/lang/IndexOutOfBoundsException") hx hb hml hown hT hK hP hD hS hA  hX hZ hM k_X5_yearAnew kl_L_35 (q0 := 0) rfl rfl rfl ((rlW_adr _ _ _ _).trans (rlW_adr _ _ _ _).symm) hl rfl rfl (Nat.le_of_ble_eq_true rfl) ⟨⟨hrm.1, hrm.2.1⟩, (by show rm.frames + 1 ≤ 9; omega), (by show 8 + (3 + 11) + rm.locals ≤ 180; omega)⟩ ⟨Nat.le_of_ble_eq_true rfl, Nat.le_of_ble_eq_true rfl⟩ dL_act_154 [] ⟨0, 419, 420, 88⟩ [⟨0, 419, 425, 91⟩, ⟨0, 419, 430, 94⟩] htb (fun z hz => absurd hz List.not_mem_nil) (by decide) (by decide) kx_L_88 q_cast_iob (fun q9 H locs hP hD hS => ?_)
    refine lv_astore (lv' := [(6, .ref q9), (0, .ref (ad 70)), (1, .int (nI 7)), (2, .int p0), (3, .int p1), (4, .int p2), (5, .int p3)]) hx hb dL_act_420 hl (by decide) rfl (fun ls hl => ?_)
    refine lv_ldc (v := -7000001) hx hb hown (hT.use kk_L_90 args) dL_act_422 ?_
    exact q_lret hx hb hr hlk rfl rfl hP hS (by decide) (by decide) dL_act_424
set_option maxRecDepth 100000 in
set_option maxHeartbeats 4000000 in
theorem ao_seal (l : Launch) (D : va_G) (cA : ClassId) (ad : Nat → Nat) (g g2 : Nat → Nat → Int32) (z z2 : Nat → Nat) (p0 p1 p2 p3 : Int32) (rm : Room) (bb : Bool) (hrm : rm.cells = 0 ∧ rm.slots = 0 ∧ rm.frames ≤ 8 ∧ rm.locals ≤ 139) (hM : q_CI l yX5_seal [Cond.code yX5_seal cX5_seal 3 (some .boolean)] rm D cA (.ref (ad 70) :: [.int p0, .int p1]) (rlW cA ad g z) (q_b bb) (rlW cA ad g2 z2)) : q_CL l yL_act [Cond.codeWith yL_act cL_act 7 (some .int) hh_act] rm_A D cA [.ref (ad 70), .int (nI 8), .int p0, .int p1, .int p2, .int p3] (rlW cA ad g z) (q_b bb) (fun w => w = rlW cA ad g2 z2) := by
  refine q_startA RL (by decide +kernel) rfl (Nat.le_of_ble_eq_true rfl) ?_
  intro p e s m below meth c A args H locs ls hx hb hr hml hown hT hlk hP hK hD hA hS hl htb hX hN hZ
  have hl : lv_has ls 7 [(0, .ref (ad 70)), (1, .int (nI 8)), (2, .int p0), (3, .int p1), (4, .int p2), (5, .int p3)] := hl
  refine ac_8 hx hb hl ?_
  refine lv_aload_n hx hb dL_act_166 rfl (lv_at hl 0 rfl) ?_
  refine lv_iload_n hx hb dL_act_167 rfl (lv_at hl 2 rfl) ?_
  refine lv_iload_n hx hb dL_act_168 rfl (lv_at hl 3 rfl) ?_
  refine q_callIW (As := [.int p0, .int p1]) (r := (q_b bb)) (w1 := rlW cA ad g2 z2) hx hb hml hown hT hK hP hD hS hA  hM k_X5_seal kl_L_38 (q0 := 0) rfl rfl rfl ((rlW_adr _ _ _ _).trans (rlW_adr _ _ _ _).symm) hl rfl rfl (Nat.le_of_ble_eq_true rfl) ⟨⟨hrm.1, hrm.2.1⟩, (by show rm.frames + 1 ≤ 9; omega), (by show 8 + (3 + 11) + rm.locals ≤ 180; omega)⟩ ⟨Nat.zero_le _, Nat.zero_le _⟩ dL_act_169 (fun H locs hP hD hS => ?_)
  refine lv_if_eq (tgt := 179) hx hb dL_act_172 (by decide) (fun c9 => ?_) (fun c9 => ?_)
  · have c9 := q_b0e c9
    subst c9
    refine lv_iconst (v := nI 0) hx hb dL_act_179 (by decide +kernel) ?_
    refine lv_goto (tgt := 419) hx hb dL_act_180 (by decide) ?_
    exact q_lret hx hb hr hlk rfl rfl hP hS (by decide) (by decide) dL_act_419
  · have c9 := q_b0n c9
    subst c9
    refine lv_iconst (v := nI 1) hx hb dL_act_175 (by decide +kernel) ?_
    refine lv_goto (tgt := 419) hx hb dL_act_176 (by decide) ?_
    exact q_lret hx hb hr hlk rfl rfl hP hS (by decide) (by decide) dL_act_419
set_option maxRecDepth 100000 in
set_option maxHeartbeats 4000000 in
theorem ax_seal_iob (l : Launch) (D : va_G) (cA : ClassId) (ad : Nat → Nat) (g g2 : Nat → Nat → Int32) (z z2 : Nat → Nat) (p0 p1 p2 p3 : Int32) (rm : Room) (hrm : rm.cells = 1 ∧ rm.slots = 6 ∧ rm.frames ≤ 8 ∧ rm.locals ≤ 139) (hM : q_CX l yX5_seal [Cond.code yX5_seal cX5_seal 3 (some .boolean)] rm D cA (.ref (ad 70) :: [.int p0, .int p1]) (rlW cA ad g z) "java/lang/IndexOutOfBoundsException" (rlW cA ad g2 z2)) : q_CL l yL_act [Cond.codeWith yL_act cL_act 7 (some .int) hh_act] rm_A D cA [.ref (ad 70), .int (nI 8), .int p0, .int p1, .int p2, .int p3] (rlW cA ad g z) (-7000001) (fun w => w = rlW cA ad g2 z2) := by
  refine q_startA RL (by decide +kernel) rfl (Nat.le_of_ble_eq_true rfl) ?_
  intro p e s m below meth c A args H locs ls hx hb hr hml hown hT hlk hP hK hD hA hS hl htb hX hN hZ
  have hl : lv_has ls 7 [(0, .ref (ad 70)), (1, .int (nI 8)), (2, .int p0), (3, .int p1), (4, .int p2), (5, .int p3)] := hl
  refine ac_8 hx hb hl ?_
  refine lv_aload_n hx hb dL_act_166 rfl (lv_at hl 0 rfl) ?_
  refine lv_iload_n hx hb dL_act_167 rfl (lv_at hl 2 rfl) ?_
  refine lv_iload_n hx hb dL_act_168 rfl (lv_at hl 3 rfl) ?_
  refine q_callXC (As := [.int p0, .int p1]) (w1 := rlW cA ad g2 z2) (name := "java/lang/IndexOutOfBoundsException") hx hb hml hown hT hK hP hD hS hA  hX hZ hM k_X5_seal kl_L_38 (q0 := 0) rfl rfl rfl ((rlW_adr _ _ _ _).trans (rlW_adr _ _ _ _).symm) hl rfl rfl (Nat.le_of_ble_eq_true rfl) ⟨⟨hrm.1, hrm.2.1⟩, (by show rm.frames + 1 ≤ 9; omega), (by show 8 + (3 + 11) + rm.locals ≤ 180; omega)⟩ ⟨Nat.le_of_ble_eq_true rfl, Nat.le_of_ble_eq_true rfl⟩ dL_act_169 [] ⟨0, 419, 420, 88⟩ [⟨0, 419, 425, 91⟩, ⟨0, 419, 430, 94⟩] htb (fun z hz => absurd hz List.not_mem_nil) (by decide) (by decide) kx_L_88 q_cast_iob (fun q9 H locs hP hD hS => ?_)
  refine lv_astore (lv' := [(6, .ref q9), (0, .ref (ad 70)), (1, .int (nI 8)), (2, .int p0), (3, .int p1), (4, .int p2), (5, .int p3)]) hx hb dL_act_420 hl (by decide) rfl (fun ls hl => ?_)
  refine lv_ldc (v := -7000001) hx hb hown (hT.use kk_L_90 args) dL_act_422 ?_
  exact q_lret hx hb hr hlk rfl rfl hP hS (by decide) (by decide) dL_act_424
set_option maxRecDepth 100000 in
set_option maxHeartbeats 4000000 in
theorem ax_seal_iae (l : Launch) (D : va_G) (cA : ClassId) (ad : Nat → Nat) (g g2 : Nat → Nat → Int32) (z z2 : Nat → Nat) (p0 p1 p2 p3 : Int32) (rm : Room) (hrm : rm.cells = 1 ∧ rm.slots = 6 ∧ rm.frames ≤ 8 ∧ rm.locals ≤ 139) (hM : q_CX l yX5_seal [Cond.code yX5_seal cX5_seal 3 (some .boolean)] rm D cA (.ref (ad 70) :: [.int p0, .int p1]) (rlW cA ad g z) "java/lang/IllegalArgumentException" (rlW cA ad g2 z2)) : q_CL l yL_act [Cond.codeWith yL_act cL_act 7 (some .int) hh_act] rm_A D cA [.ref (ad 70), .int (nI 8), .int p0, .int p1, .int p2, .int p3] (rlW cA ad g z) (-7000002) (fun w => w = rlW cA ad g2 z2) := by
  refine q_startA RL (by decide +kernel) rfl (Nat.le_of_ble_eq_true rfl) ?_
  intro p e s m below meth c A args H locs ls hx hb hr hml hown hT hlk hP hK hD hA hS hl htb hX hN hZ
  have hl : lv_has ls 7 [(0, .ref (ad 70)), (1, .int (nI 8)), (2, .int p0), (3, .int p1), (4, .int p2), (5, .int p3)] := hl
  refine ac_8 hx hb hl ?_
  refine lv_aload_n hx hb dL_act_166 rfl (lv_at hl 0 rfl) ?_
  refine lv_iload_n hx hb dL_act_167 rfl (lv_at hl 2 rfl) ?_
  refine lv_iload_n hx hb dL_act_168 rfl (lv_at hl 3 rfl) ?_
  refine q_callXC (As := [.int p0, .int p1]) (w1 := rlW cA ad g2 z2) (name := "java/lang/IllegalArgumentException") hx hb hml hown hT hK hP hD hS hA  hX hZ hM k_X5_seal kl_L_38 (q0 := 0) rfl rfl rfl ((rlW_adr _ _ _ _).trans (rlW_adr _ _ _ _).symm) hl rfl rfl (Nat.le_of_ble_eq_true rfl) ⟨⟨hrm.1, hrm.2.1⟩, (by show rm.frames + 1 ≤ 9; omega), (by show 8 + (3 + 11) + rm.locals ≤ 180; omega)⟩ ⟨Nat.le_of_ble_eq_true rfl, Nat.le_of_ble_eq_true rfl⟩ dL_act_169 [⟨0, 419, 420, 88⟩] ⟨0, 419, 425, 91⟩ [⟨0, 419, 430, 94⟩] htb (fun z hz => Or.inr (by rw [List.mem_singleton.mp hz]; exact ⟨by decide, _, hT.use kx_L_88 args, hN.1⟩)) (by decide) (by decide) kx_L_91 q_cast_iae (fun q9 H locs hP hD hS => ?_)
  refine lv_astore (lv' := [(6, .ref q9), (0, .ref (ad 70)), (1, .int (nI 8)), (2, .int p0), (3, .int p1), (4, .int p2), (5, .int p3)]) hx hb dL_act_425 hl (by decide) rfl (fun ls hl => ?_)
  refine lv_ldc (v := -7000002) hx hb hown (hT.use kk_L_93 args) dL_act_427 ?_
  exact q_lret hx hb hr hlk rfl rfl hP hS (by decide) (by decide) dL_act_429
set_option maxRecDepth 100000 in
set_option maxHeartbeats 4000000 in
theorem ao_block (l : Launch) (D : va_G) (cA : ClassId) (ad : Nat → Nat) (g g2 : Nat → Nat → Int32) (z z2 : Nat → Nat) (p0 p1 p2 p3 : Int32) (rm : Room) (bb : Bool) (hrm : rm.cells = 0 ∧ rm.slots = 0 ∧ rm.frames ≤ 8 ∧ rm.locals ≤ 139) (hM : q_CI l yX5_block [Cond.code yX5_block cX5_block 4 (some .boolean)] rm D cA (.ref (ad 70) :: [.int p0, .int p1, .int (q_b (decide (p2 = nI 1)))]) (rlW cA ad g z) (q_b bb) (rlW cA ad g2 z2)) : q_CL l yL_act [Cond.codeWith yL_act cL_act 7 (some .int) hh_act] rm_A D cA [.ref (ad 70), .int (nI 9), .int p0, .int p1, .int p2, .int p3] (rlW cA ad g z) (q_b bb) (fun w => w = rlW cA ad g2 z2) := by
  refine q_startA RL (by decide +kernel) rfl (Nat.le_of_ble_eq_true rfl) ?_
  intro p e s m below meth c A args H locs ls hx hb hr hml hown hT hlk hP hK hD hA hS hl htb hX hN hZ
  have hl : lv_has ls 7 [(0, .ref (ad 70)), (1, .int (nI 9)), (2, .int p0), (3, .int p1), (4, .int p2), (5, .int p3)] := hl
  refine ac_9 hx hb hl ?_
  refine lv_aload_n hx hb dL_act_189 rfl (lv_at hl 0 rfl) ?_
  refine lv_iload_n hx hb dL_act_190 rfl (lv_at hl 2 rfl) ?_
  refine lv_iload_n hx hb dL_act_191 rfl (lv_at hl 3 rfl) ?_
  refine lv_iload hx hb dL_act_192 (lv_at hl 4 rfl) ?_
  refine lv_iconst (v := nI 1) hx hb dL_act_194 (by decide +kernel) ?_
  refine lv_icmp_ne (tgt := 202) hx hb dL_act_195 (by decide) (fun c9 => ?_) (fun c9 => ?_)
  · have e9 : q_b (decide (p2 = nI 1)) = nI 0 := by rw [decide_eq_false c9]; rfl
    rw [e9] at hM
    refine lv_iconst (v := nI 0) hx hb dL_act_202 (by decide +kernel) ?_
    refine q_callIW (As := [.int p0, .int p1, .int (nI 0)]) (r := (q_b bb)) (w1 := rlW cA ad g2 z2) hx hb hml hown hT hK hP hD hS hA  hM k_X5_block kl_L_42 (q0 := 0) rfl rfl rfl ((rlW_adr _ _ _ _).trans (rlW_adr _ _ _ _).symm) hl rfl rfl (Nat.le_of_ble_eq_true rfl) ⟨⟨hrm.1, hrm.2.1⟩, (by show rm.frames + 1 ≤ 9; omega), (by show 8 + (4 + 11) + rm.locals ≤ 180; omega)⟩ ⟨Nat.zero_le _, Nat.zero_le _⟩ dL_act_203 (fun H locs hP hD hS => ?_)
    refine lv_if_eq (tgt := 213) hx hb dL_act_206 (by decide) (fun c9 => ?_) (fun c9 => ?_)
    · have c9 := q_b0e c9
      subst c9
      refine lv_iconst (v := nI 0) hx hb dL_act_213 (by decide +kernel) ?_
      refine lv_goto (tgt := 419) hx hb dL_act_214 (by decide) ?_
      exact q_lret hx hb hr hlk rfl rfl hP hS (by decide) (by decide) dL_act_419
    · have c9 := q_b0n c9
      subst c9
      refine lv_iconst (v := nI 1) hx hb dL_act_209 (by decide +kernel) ?_
      refine lv_goto (tgt := 419) hx hb dL_act_210 (by decide) ?_
      exact q_lret hx hb hr hlk rfl rfl hP hS (by decide) (by decide) dL_act_419
  · have e9 : q_b (decide (p2 = nI 1)) = nI 1 := by rw [decide_eq_true c9]; rfl
    rw [e9] at hM
    refine lv_iconst (v := nI 1) hx hb dL_act_198 (by decide +kernel) ?_
    refine lv_goto (tgt := 203) hx hb dL_act_199 (by decide) ?_
    refine q_callIW (As := [.int p0, .int p1, .int (nI 1)]) (r := (q_b bb)) (w1 := rlW cA ad g2 z2) hx hb hml hown hT hK hP hD hS hA  hM k_X5_block kl_L_42 (q0 := 0) rfl rfl rfl ((rlW_adr _ _ _ _).trans (rlW_adr _ _ _ _).symm) hl rfl rfl (Nat.le_of_ble_eq_true rfl) ⟨⟨hrm.1, hrm.2.1⟩, (by show rm.frames + 1 ≤ 9; omega), (by show 8 + (4 + 11) + rm.locals ≤ 180; omega)⟩ ⟨Nat.zero_le _, Nat.zero_le _⟩ dL_act_203 (fun H locs hP hD hS => ?_)
    refine lv_if_eq (tgt := 213) hx hb dL_act_206 (by decide) (fun c9 => ?_) (fun c9 => ?_)
    · have c9 := q_b0e c9
      subst c9
      refine lv_iconst (v := nI 0) hx hb dL_act_213 (by decide +kernel) ?_
      refine lv_goto (tgt := 419) hx hb dL_act_214 (by decide) ?_
      exact q_lret hx hb hr hlk rfl rfl hP hS (by decide) (by decide) dL_act_419
    · have c9 := q_b0n c9
      subst c9
      refine lv_iconst (v := nI 1) hx hb dL_act_209 (by decide +kernel) ?_
      refine lv_goto (tgt := 419) hx hb dL_act_210 (by decide) ?_
      exact q_lret hx hb hr hlk rfl rfl hP hS (by decide) (by decide) dL_act_419
set_option maxRecDepth 100000 in
set_option maxHeartbeats 4000000 in
theorem ax_block_iob (l : Launch) (D : va_G) (cA : ClassId) (ad : Nat → Nat) (g g2 : Nat → Nat → Int32) (z z2 : Nat → Nat) (p0 p1 p2 p3 : Int32) (rm : Room) (hrm : rm.cells = 1 ∧ rm.slots = 6 ∧ rm.frames ≤ 8 ∧ rm.locals ≤ 139) (hM : q_CX l yX5_block [Cond.code yX5_block cX5_block 4 (some .boolean)] rm D cA (.ref (ad 70) :: [.int p0, .int p1, .int (q_b (decide (p2 = nI 1)))]) (rlW cA ad g z) "java/lang/IndexOutOfBoundsException" (rlW cA ad g2 z2)) : q_CL l yL_act [Cond.codeWith yL_act cL_act 7 (some .int) hh_act] rm_A D cA [.ref (ad 70), .int (nI 9), .int p0, .int p1, .int p2, .int p3] (rlW cA ad g z) (-7000001) (fun w => w = rlW cA ad g2 z2) := by
  refine q_startA RL (by decide +kernel) rfl (Nat.le_of_ble_eq_true rfl) ?_
  intro p e s m below meth c A args H locs ls hx hb hr hml hown hT hlk hP hK hD hA hS hl htb hX hN hZ
  have hl : lv_has ls 7 [(0, .ref (ad 70)), (1, .int (nI 9)), (2, .int p0), (3, .int p1), (4, .int p2), (5, .int p3)] := hl
  refine ac_9 hx hb hl ?_
  refine lv_aload_n hx hb dL_act_189 rfl (lv_at hl 0 rfl) ?_
  refine lv_iload_n hx hb dL_act_190 rfl (lv_at hl 2 rfl) ?_
  refine lv_iload_n hx hb dL_act_191 rfl (lv_at hl 3 rfl) ?_
  refine lv_iload hx hb dL_act_192 (lv_at hl 4 rfl) ?_
  refine lv_iconst (v := nI 1) hx hb dL_act_194 (by decide +kernel) ?_
  refine lv_icmp_ne (tgt := 202) hx hb dL_act_195 (by decide) (fun c9 => ?_) (fun c9 => ?_)
  · have e9 : q_b (decide (p2 = nI 1)) = nI 0 := by rw [decide_eq_false c9]; rfl
    rw [e9] at hM
    refine lv_iconst (v := nI 0) hx hb dL_act_202 (by decide +kernel) ?_
    refine q_callXC (As := [.int p0, .int p1, .int (nI 0)]) (w1 := rlW cA ad g2 z2) (name := "java/lang/IndexOutOfBoundsException") hx hb hml hown hT hK hP hD hS hA  hX hZ hM k_X5_block kl_L_42 (q0 := 0) rfl rfl rfl ((rlW_adr _ _ _ _).trans (rlW_adr _ _ _ _).symm) hl rfl rfl (Nat.le_of_ble_eq_true rfl) ⟨⟨hrm.1, hrm.2.1⟩, (by show rm.frames + 1 ≤ 9; omega), (by show 8 + (4 + 11) + rm.locals ≤ 180; omega)⟩ ⟨Nat.le_of_ble_eq_true rfl, Nat.le_of_ble_eq_true rfl⟩ dL_act_203 [] ⟨0, 419, 420, 88⟩ [⟨0, 419, 425, 91⟩, ⟨0, 419, 430, 94⟩] htb (fun z hz => absurd hz List.not_mem_nil) (by decide) (by decide) kx_L_88 q_cast_iob (fun q9 H locs hP hD hS => ?_)
    refine lv_astore (lv' := [(6, .ref q9), (0, .ref (ad 70)), (1, .int (nI 9)), (2, .int p0), (3, .int p1), (4, .int p2), (5, .int p3)]) hx hb dL_act_420 hl (by decide) rfl (fun ls hl => ?_)
    refine lv_ldc (v := -7000001) hx hb hown (hT.use kk_L_90 args) dL_act_422 ?_
    exact q_lret hx hb hr hlk rfl rfl hP hS (by decide) (by decide) dL_act_424
  · have e9 : q_b (decide (p2 = nI 1)) = nI 1 := by rw [decide_eq_true c9]; rfl
    rw [e9] at hM
    refine lv_iconst (v := nI 1) hx hb dL_act_198 (by decide +kernel) ?_
    refine lv_goto (tgt := 203) hx hb dL_act_199 (by decide) ?_
    refine q_callXC (As := [.int p0, .int p1, .int (nI 1)]) (w1 := rlW cA ad g2 z2) (name := "java/lang/IndexOutOfBoundsException") hx hb hml hown hT hK hP hD hS hA  hX hZ hM k_X5_block kl_L_42 (q0 := 0) rfl rfl rfl ((rlW_adr _ _ _ _).trans (rlW_adr _ _ _ _).symm) hl rfl rfl (Nat.le_of_ble_eq_true rfl) ⟨⟨hrm.1, hrm.2.1⟩, (by show rm.frames + 1 ≤ 9; omega), (by show 8 + (4 + 11) + rm.locals ≤ 180; omega)⟩ ⟨Nat.le_of_ble_eq_true rfl, Nat.le_of_ble_eq_true rfl⟩ dL_act_203 [] ⟨0, 419, 420, 88⟩ [⟨0, 419, 425, 91⟩, ⟨0, 419, 430, 94⟩] htb (fun z hz => absurd hz List.not_mem_nil) (by decide) (by decide) kx_L_88 q_cast_iob (fun q9 H locs hP hD hS => ?_)
    refine lv_astore (lv' := [(6, .ref q9), (0, .ref (ad 70)), (1, .int (nI 9)), (2, .int p0), (3, .int p1), (4, .int p2), (5, .int p3)]) hx hb dL_act_420 hl (by decide) rfl (fun ls hl => ?_)
    refine lv_ldc (v := -7000001) hx hb hown (hT.use kk_L_90 args) dL_act_422 ?_
    exact q_lret hx hb hr hlk rfl rfl hP hS (by decide) (by decide) dL_act_424
set_option maxRecDepth 100000 in
set_option maxHeartbeats 4000000 in
theorem ax_block_iae (l : Launch) (D : va_G) (cA : ClassId) (ad : Nat → Nat) (g g2 : Nat → Nat → Int32) (z z2 : Nat → Nat) (p0 p1 p2 p3 : Int32) (rm : Room) (hrm : rm.cells = 1 ∧ rm.slots = 6 ∧ rm.frames ≤ 8 ∧ rm.locals ≤ 139) (hM : q_CX l yX5_block [Cond.code yX5_block cX5_block 4 (some .boolean)] rm D cA (.ref (ad 70) :: [.int p0, .int p1, .int (q_b (decide (p2 = nI 1)))]) (rlW cA ad g z) "java/lang/IllegalArgumentException" (rlW cA ad g2 z2)) : q_CL l yL_act [Cond.codeWith yL_act cL_act 7 (some .int) hh_act] rm_A D cA [.ref (ad 70), .int (nI 9), .int p0, .int p1, .int p2, .int p3] (rlW cA ad g z) (-7000002) (fun w => w = rlW cA ad g2 z2) := by
  refine q_startA RL (by decide +kernel) rfl (Nat.le_of_ble_eq_true rfl) ?_
  intro p e s m below meth c A args H locs ls hx hb hr hml hown hT hlk hP hK hD hA hS hl htb hX hN hZ
  have hl : lv_has ls 7 [(0, .ref (ad 70)), (1, .int (nI 9)), (2, .int p0), (3, .int p1), (4, .int p2), (5, .int p3)] := hl
  refine ac_9 hx hb hl ?_
  refine lv_aload_n hx hb dL_act_189 rfl (lv_at hl 0 rfl) ?_
  refine lv_iload_n hx hb dL_act_190 rfl (lv_at hl 2 rfl) ?_
  refine lv_iload_n hx hb dL_act_191 rfl (lv_at hl 3 rfl) ?_
  refine lv_iload hx hb dL_act_192 (lv_at hl 4 rfl) ?_
  refine lv_iconst (v := nI 1) hx hb dL_act_194 (by decide +kernel) ?_
  refine lv_icmp_ne (tgt := 202) hx hb dL_act_195 (by decide) (fun c9 => ?_) (fun c9 => ?_)
  · have e9 : q_b (decide (p2 = nI 1)) = nI 0 := by rw [decide_eq_false c9]; rfl
    rw [e9] at hM
    refine lv_iconst (v := nI 0) hx hb dL_act_202 (by decide +kernel) ?_
    refine q_callXC (As := [.int p0, .int p1, .int (nI 0)]) (w1 := rlW cA ad g2 z2) (name := "java/lang/IllegalArgumentException") hx hb hml hown hT hK hP hD hS hA  hX hZ hM k_X5_block kl_L_42 (q0 := 0) rfl rfl rfl ((rlW_adr _ _ _ _).trans (rlW_adr _ _ _ _).symm) hl rfl rfl (Nat.le_of_ble_eq_true rfl) ⟨⟨hrm.1, hrm.2.1⟩, (by show rm.frames + 1 ≤ 9; omega), (by show 8 + (4 + 11) + rm.locals ≤ 180; omega)⟩ ⟨Nat.le_of_ble_eq_true rfl, Nat.le_of_ble_eq_true rfl⟩ dL_act_203 [⟨0, 419, 420, 88⟩] ⟨0, 419, 425, 91⟩ [⟨0, 419, 430, 94⟩] htb (fun z hz => Or.inr (by rw [List.mem_singleton.mp hz]; exact ⟨by decide, _, hT.use kx_L_88 args, hN.1⟩)) (by decide) (by decide) kx_L_91 q_cast_iae (fun q9 H locs hP hD hS => ?_)
    refine lv_astore (lv' := [(6, .ref q9), (0, .ref (ad 70)), (1, .int (nI 9)), (2, .int p0), (3, .int p1), (4, .int p2), (5, .int p3)]) hx hb dL_act_425 hl (by decide) rfl (fun ls hl => ?_)
    refine lv_ldc (v := -7000002) hx hb hown (hT.use kk_L_93 args) dL_act_427 ?_
    exact q_lret hx hb hr hlk rfl rfl hP hS (by decide) (by decide) dL_act_429
  · have e9 : q_b (decide (p2 = nI 1)) = nI 1 := by rw [decide_eq_true c9]; rfl
    rw [e9] at hM
    refine lv_iconst (v := nI 1) hx hb dL_act_198 (by decide +kernel) ?_
    refine lv_goto (tgt := 203) hx hb dL_act_199 (by decide) ?_
    refine q_callXC (As := [.int p0, .int p1, .int (nI 1)]) (w1 := rlW cA ad g2 z2) (name := "java/lang/IllegalArgumentException") hx hb hml hown hT hK hP hD hS hA  hX hZ hM k_X5_block kl_L_42 (q0 := 0) rfl rfl rfl ((rlW_adr _ _ _ _).trans (rlW_adr _ _ _ _).symm) hl rfl rfl (Nat.le_of_ble_eq_true rfl) ⟨⟨hrm.1, hrm.2.1⟩, (by show rm.frames + 1 ≤ 9; omega), (by show 8 + (4 + 11) + rm.locals ≤ 180; omega)⟩ ⟨Nat.le_of_ble_eq_true rfl, Nat.le_of_ble_eq_true rfl⟩ dL_act_203 [⟨0, 419, 420, 88⟩] ⟨0, 419, 425, 91⟩ [⟨0, 419, 430, 94⟩] htb (fun z hz => Or.inr (by rw [List.mem_singleton.mp hz]; exact ⟨by decide, _, hT.use kx_L_88 args, hN.1⟩)) (by decide) (by decide) kx_L_91 q_cast_iae (fun q9 H locs hP hD hS => ?_)
    refine lv_astore (lv' := [(6, .ref q9), (0, .ref (ad 70)), (1, .int (nI 9)), (2, .int p0), (3, .int p1), (4, .int p2), (5, .int p3)]) hx hb dL_act_425 hl (by decide) rfl (fun ls hl => ?_)
    refine lv_ldc (v := -7000002) hx hb hown (hT.use kk_L_93 args) dL_act_427 ?_
    exact q_lret hx hb hr hlk rfl rfl hP hS (by decide) (by decide) dL_act_429
set_option maxRecDepth 100000 in
set_option maxHeartbeats 4000000 in
theorem ao_weight (l : Launch) (D : va_G) (cA : ClassId) (ad : Nat → Nat) (g g2 : Nat → Nat → Int32) (z z2 : Nat → Nat) (p0 p1 p2 p3 : Int32) (rm : Room) (r : Int32) (hrm : rm.cells = 0 ∧ rm.slots = 0 ∧ rm.frames ≤ 8 ∧ rm.locals ≤ 139) (hM : q_CI l yX5_weight [Cond.code yX5_weight cX5_weight 3 (some .int)] rm D cA (.ref (ad 70) :: [.int p0, .int p1]) (rlW cA ad g z) r (rlW cA ad g2 z2)) : q_CL l yL_act [Cond.codeWith yL_act cL_act 7 (some .int) hh_act] rm_A D cA [.ref (ad 70), .int (nI 10), .int p0, .int p1, .int p2, .int p3] (rlW cA ad g z) r (fun w => w = rlW cA ad g2 z2) := by
  refine q_startA RL (by decide +kernel) rfl (Nat.le_of_ble_eq_true rfl) ?_
  intro p e s m below meth c A args H locs ls hx hb hr hml hown hT hlk hP hK hD hA hS hl htb hX hN hZ
  have hl : lv_has ls 7 [(0, .ref (ad 70)), (1, .int (nI 10)), (2, .int p0), (3, .int p1), (4, .int p2), (5, .int p3)] := hl
  refine ac_10 hx hb hl ?_
  refine lv_aload_n hx hb dL_act_223 rfl (lv_at hl 0 rfl) ?_
  refine lv_iload_n hx hb dL_act_224 rfl (lv_at hl 2 rfl) ?_
  refine lv_iload_n hx hb dL_act_225 rfl (lv_at hl 3 rfl) ?_
  refine q_callIW (As := [.int p0, .int p1]) (r := r) (w1 := rlW cA ad g2 z2) hx hb hml hown hT hK hP hD hS hA  hM k_X5_weight kl_L_45 (q0 := 0) rfl rfl rfl ((rlW_adr _ _ _ _).trans (rlW_adr _ _ _ _).symm) hl rfl rfl (Nat.le_of_ble_eq_true rfl) ⟨⟨hrm.1, hrm.2.1⟩, (by show rm.frames + 1 ≤ 9; omega), (by show 8 + (3 + 11) + rm.locals ≤ 180; omega)⟩ ⟨Nat.zero_le _, Nat.zero_le _⟩ dL_act_226 (fun H locs hP hD hS => ?_)
  refine lv_goto (tgt := 419) hx hb dL_act_229 (by decide) ?_
  exact q_lret hx hb hr hlk rfl rfl hP hS (by decide) (by decide) dL_act_419
set_option maxRecDepth 100000 in
set_option maxHeartbeats 4000000 in
theorem ax_weight_iob (l : Launch) (D : va_G) (cA : ClassId) (ad : Nat → Nat) (g g2 : Nat → Nat → Int32) (z z2 : Nat → Nat) (p0 p1 p2 p3 : Int32) (rm : Room) (hrm : rm.cells = 1 ∧ rm.slots = 6 ∧ rm.frames ≤ 8 ∧ rm.locals ≤ 139) (hM : q_CX l yX5_weight [Cond.code yX5_weight cX5_weight 3 (some .int)] rm D cA (.ref (ad 70) :: [.int p0, .int p1]) (rlW cA ad g z) "java/lang/IndexOutOfBoundsException" (rlW cA ad g2 z2)) : q_CL l yL_act [Cond.codeWith yL_act cL_act 7 (some .int) hh_act] rm_A D cA [.ref (ad 70), .int (nI 10), .int p0, .int p1, .int p2, .int p3] (rlW cA ad g z) (-7000001) (fun w => w = rlW cA ad g2 z2) := by
  refine q_startA RL (by decide +kernel) rfl (Nat.le_of_ble_eq_true rfl) ?_
  intro p e s m below meth c A args H locs ls hx hb hr hml hown hT hlk hP hK hD hA hS hl htb hX hN hZ
  have hl : lv_has ls 7 [(0, .ref (ad 70)), (1, .int (nI 10)), (2, .int p0), (3, .int p1), (4, .int p2), (5, .int p3)] := hl
  refine ac_10 hx hb hl ?_
  refine lv_aload_n hx hb dL_act_223 rfl (lv_at hl 0 rfl) ?_
  refine lv_iload_n hx hb dL_act_224 rfl (lv_at hl 2 rfl) ?_
  refine lv_iload_n hx hb dL_act_225 rfl (lv_at hl 3 rfl) ?_
  refine q_callXC (As := [.int p0, .int p1]) (w1 := rlW cA ad g2 z2) (name := "java/lang/IndexOutOfBoundsException") hx hb hml hown hT hK hP hD hS hA  hX hZ hM k_X5_weight kl_L_45 (q0 := 0) rfl rfl rfl ((rlW_adr _ _ _ _).trans (rlW_adr _ _ _ _).symm) hl rfl rfl (Nat.le_of_ble_eq_true rfl) ⟨⟨hrm.1, hrm.2.1⟩, (by show rm.frames + 1 ≤ 9; omega), (by show 8 + (3 + 11) + rm.locals ≤ 180; omega)⟩ ⟨Nat.le_of_ble_eq_true rfl, Nat.le_of_ble_eq_true rfl⟩ dL_act_226 [] ⟨0, 419, 420, 88⟩ [⟨0, 419, 425, 91⟩, ⟨0, 419, 430, 94⟩] htb (fun z hz => absurd hz List.not_mem_nil) (by decide) (by decide) kx_L_88 q_cast_iob (fun q9 H locs hP hD hS => ?_)
  refine lv_astore (lv' := [(6, .ref q9), (0, .ref (ad 70)), (1, .int (nI 10)), (2, .int p0), (3, .int p1), (4, .int p2), (5, .int p3)]) hx hb dL_act_420 hl (by decide) rfl (fun ls hl => ?_)
  refine lv_ldc (v := -7000001) hx hb hown (hT.use kk_L_90 args) dL_act_422 ?_
  exact q_lret hx hb hr hlk rfl rfl hP hS (by decide) (by decide) dL_act_424
set_option maxRecDepth 100000 in
set_option maxHeartbeats 4000000 in
theorem ax_weight_iae (l : Launch) (D : va_G) (cA : ClassId) (ad : Nat → Nat) (g g2 : Nat → Nat → Int32) (z z2 : Nat → Nat) (p0 p1 p2 p3 : Int32) (rm : Room) (hrm : rm.cells = 1 ∧ rm.slots = 6 ∧ rm.frames ≤ 8 ∧ rm.locals ≤ 139) (hM : q_CX l yX5_weight [Cond.code yX5_weight cX5_weight 3 (some .int)] rm D cA (.ref (ad 70) :: [.int p0, .int p1]) (rlW cA ad g z) "java/lang/IllegalArgumentException" (rlW cA ad g2 z2)) : q_CL l yL_act [Cond.codeWith yL_act cL_act 7 (some .int) hh_act] rm_A D cA [.ref (ad 70), .int (nI 10), .int p0, .int p1, .int p2, .int p3] (rlW cA ad g z) (-7000002) (fun w => w = rlW cA ad g2 z2) := by
  refine q_startA RL (by decide +kernel) rfl (Nat.le_of_ble_eq_true rfl) ?_
  intro p e s m below meth c A args H locs ls hx hb hr hml hown hT hlk hP hK hD hA hS hl htb hX hN hZ
  have hl : lv_has ls 7 [(0, .ref (ad 70)), (1, .int (nI 10)), (2, .int p0), (3, .int p1), (4, .int p2), (5, .int p3)] := hl
  refine ac_10 hx hb hl ?_
  refine lv_aload_n hx hb dL_act_223 rfl (lv_at hl 0 rfl) ?_
  refine lv_iload_n hx hb dL_act_224 rfl (lv_at hl 2 rfl) ?_
  refine lv_iload_n hx hb dL_act_225 rfl (lv_at hl 3 rfl) ?_
  refine q_callXC (As := [.int p0, .int p1]) (w1 := rlW cA ad g2 z2) (name := "java/lang/IllegalArgumentException") hx hb hml hown hT hK hP hD hS hA  hX hZ hM k_X5_weight kl_L_45 (q0 := 0) rfl rfl rfl ((rlW_adr _ _ _ _).trans (rlW_adr _ _ _ _).symm) hl rfl rfl (Nat.le_of_ble_eq_true rfl) ⟨⟨hrm.1, hrm.2.1⟩, (by show rm.frames + 1 ≤ 9; omega), (by show 8 + (3 + 11) + rm.locals ≤ 180; omega)⟩ ⟨Nat.le_of_ble_eq_true rfl, Nat.le_of_ble_eq_true rfl⟩ dL_act_226 [⟨0, 419, 420, 88⟩] ⟨0, 419, 425, 91⟩ [⟨0, 419, 430, 94⟩] htb (fun z hz => Or.inr (by rw [List.mem_singleton.mp hz]; exact ⟨by decide, _, hT.use kx_L_88 args, hN.1⟩)) (by decide) (by decide) kx_L_91 q_cast_iae (fun q9 H locs hP hD hS => ?_)
  refine lv_astore (lv' := [(6, .ref q9), (0, .ref (ad 70)), (1, .int (nI 10)), (2, .int p0), (3, .int p1), (4, .int p2), (5, .int p3)]) hx hb dL_act_425 hl (by decide) rfl (fun ls hl => ?_)
  refine lv_ldc (v := -7000002) hx hb hown (hT.use kk_L_93 args) dL_act_427 ?_
  exact q_lret hx hb hr hlk rfl rfl hP hS (by decide) (by decide) dL_act_429
set_option maxRecDepth 100000 in
set_option maxHeartbeats 4000000 in
theorem ao_whyNot (l : Launch) (D : va_G) (cA : ClassId) (ad : Nat → Nat) (g g2 : Nat → Nat → Int32) (z z2 : Nat → Nat) (p0 p1 p2 p3 : Int32) (rm : Room) (r : Int32) (hrm : rm.cells = 0 ∧ rm.slots = 0 ∧ rm.frames ≤ 8 ∧ rm.locals ≤ 139) (hM : q_CI l yX5_whyNot [Cond.code yX5_whyNot cX5_whyNot 3 (some .int)] rm D cA (.ref (ad 70) :: [.int p0, .int p1]) (rlW cA ad g z) r (rlW cA ad g2 z2)) : q_CL l yL_act [Cond.codeWith yL_act cL_act 7 (some .int) hh_act] rm_A D cA [.ref (ad 70), .int (nI 11), .int p0, .int p1, .int p2, .int p3] (rlW cA ad g z) r (fun w => w = rlW cA ad g2 z2) := by
  refine q_startA RL (by decide +kernel) rfl (Nat.le_of_ble_eq_true rfl) ?_
  intro p e s m below meth c A args H locs ls hx hb hr hml hown hT hlk hP hK hD hA hS hl htb hX hN hZ
  have hl : lv_has ls 7 [(0, .ref (ad 70)), (1, .int (nI 11)), (2, .int p0), (3, .int p1), (4, .int p2), (5, .int p3)] := hl
  refine ac_11 hx hb hl ?_
  refine lv_aload_n hx hb dL_act_238 rfl (lv_at hl 0 rfl) ?_
  refine lv_iload_n hx hb dL_act_239 rfl (lv_at hl 2 rfl) ?_
  refine lv_iload_n hx hb dL_act_240 rfl (lv_at hl 3 rfl) ?_
  refine q_callIW (As := [.int p0, .int p1]) (r := r) (w1 := rlW cA ad g2 z2) hx hb hml hown hT hK hP hD hS hA  hM k_X5_whyNot kl_L_48 (q0 := 0) rfl rfl rfl ((rlW_adr _ _ _ _).trans (rlW_adr _ _ _ _).symm) hl rfl rfl (Nat.le_of_ble_eq_true rfl) ⟨⟨hrm.1, hrm.2.1⟩, (by show rm.frames + 1 ≤ 9; omega), (by show 8 + (3 + 11) + rm.locals ≤ 180; omega)⟩ ⟨Nat.zero_le _, Nat.zero_le _⟩ dL_act_241 (fun H locs hP hD hS => ?_)
  refine lv_goto (tgt := 419) hx hb dL_act_244 (by decide) ?_
  exact q_lret hx hb hr hlk rfl rfl hP hS (by decide) (by decide) dL_act_419
set_option maxRecDepth 100000 in
set_option maxHeartbeats 4000000 in
theorem ax_whyNot_iob (l : Launch) (D : va_G) (cA : ClassId) (ad : Nat → Nat) (g g2 : Nat → Nat → Int32) (z z2 : Nat → Nat) (p0 p1 p2 p3 : Int32) (rm : Room) (hrm : rm.cells = 1 ∧ rm.slots = 6 ∧ rm.frames ≤ 8 ∧ rm.locals ≤ 139) (hM : q_CX l yX5_whyNot [Cond.code yX5_whyNot cX5_whyNot 3 (some .int)] rm D cA (.ref (ad 70) :: [.int p0, .int p1]) (rlW cA ad g z) "java/lang/IndexOutOfBoundsException" (rlW cA ad g2 z2)) : q_CL l yL_act [Cond.codeWith yL_act cL_act 7 (some .int) hh_act] rm_A D cA [.ref (ad 70), .int (nI 11), .int p0, .int p1, .int p2, .int p3] (rlW cA ad g z) (-7000001) (fun w => w = rlW cA ad g2 z2) := by
  refine q_startA RL (by decide +kernel) rfl (Nat.le_of_ble_eq_true rfl) ?_
  intro p e s m below meth c A args H locs ls hx hb hr hml hown hT hlk hP hK hD hA hS hl htb hX hN hZ
  have hl : lv_has ls 7 [(0, .ref (ad 70)), (1, .int (nI 11)), (2, .int p0), (3, .int p1), (4, .int p2), (5, .int p3)] := hl
  refine ac_11 hx hb hl ?_
  refine lv_aload_n hx hb dL_act_238 rfl (lv_at hl 0 rfl) ?_
  refine lv_iload_n hx hb dL_act_239 rfl (lv_at hl 2 rfl) ?_
  refine lv_iload_n hx hb dL_act_240 rfl (lv_at hl 3 rfl) ?_
  refine q_callXC (As := [.int p0, .int p1]) (w1 := rlW cA ad g2 z2) (name := "java/lang/IndexOutOfBoundsException") hx hb hml hown hT hK hP hD hS hA  hX hZ hM k_X5_whyNot kl_L_48 (q0 := 0) rfl rfl rfl ((rlW_adr _ _ _ _).trans (rlW_adr _ _ _ _).symm) hl rfl rfl (Nat.le_of_ble_eq_true rfl) ⟨⟨hrm.1, hrm.2.1⟩, (by show rm.frames + 1 ≤ 9; omega), (by show 8 + (3 + 11) + rm.locals ≤ 180; omega)⟩ ⟨Nat.le_of_ble_eq_true rfl, Nat.le_of_ble_eq_true rfl⟩ dL_act_241 [] ⟨0, 419, 420, 88⟩ [⟨0, 419, 425, 91⟩, ⟨0, 419, 430, 94⟩] htb (fun z hz => absurd hz List.not_mem_nil) (by decide) (by decide) kx_L_88 q_cast_iob (fun q9 H locs hP hD hS => ?_)
  refine lv_astore (lv' := [(6, .ref q9), (0, .ref (ad 70)), (1, .int (nI 11)), (2, .int p0), (3, .int p1), (4, .int p2), (5, .int p3)]) hx hb dL_act_420 hl (by decide) rfl (fun ls hl => ?_)
  refine lv_ldc (v := -7000001) hx hb hown (hT.use kk_L_90 args) dL_act_422 ?_
  exact q_lret hx hb hr hlk rfl rfl hP hS (by decide) (by decide) dL_act_424
set_option maxRecDepth 100000 in
set_option maxHeartbeats 4000000 in
theorem ax_whyNot_iae (l : Launch) (D : va_G) (cA : ClassId) (ad : Nat → Nat) (g g2 : Nat → Nat → Int32) (z z2 : Nat → Nat) (p0 p1 p2 p3 : Int32) (rm : Room) (hrm : rm.cells = 1 ∧ rm.slots = 6 ∧ rm.frames ≤ 8 ∧ rm.locals ≤ 139) (hM : q_CX l yX5_whyNot [Cond.code yX5_whyNot cX5_whyNot 3 (some .int)] rm D cA (.ref (ad 70) :: [.int p0, .int p1]) (rlW cA ad g z) "java/lang/IllegalArgumentException" (rlW cA ad g2 z2)) : q_CL l yL_act [Cond.codeWith yL_act cL_act 7 (some .int) hh_act] rm_A D cA [.ref (ad 70), .int (nI 11), .int p0, .int p1, .int p2, .int p3] (rlW cA ad g z) (-7000002) (fun w => w = rlW cA ad g2 z2) := by
  refine q_startA RL (by decide +kernel) rfl (Nat.le_of_ble_eq_true rfl) ?_
  intro p e s m below meth c A args H locs ls hx hb hr hml hown hT hlk hP hK hD hA hS hl htb hX hN hZ
  have hl : lv_has ls 7 [(0, .ref (ad 70)), (1, .int (nI 11)), (2, .int p0), (3, .int p1), (4, .int p2), (5, .int p3)] := hl
  refine ac_11 hx hb hl ?_
  refine lv_aload_n hx hb dL_act_238 rfl (lv_at hl 0 rfl) ?_
  refine lv_iload_n hx hb dL_act_239 rfl (lv_at hl 2 rfl) ?_
  refine lv_iload_n hx hb dL_act_240 rfl (lv_at hl 3 rfl) ?_
  refine q_callXC (As := [.int p0, .int p1]) (w1 := rlW cA ad g2 z2) (name := "java/lang/IllegalArgumentException") hx hb hml hown hT hK hP hD hS hA  hX hZ hM k_X5_whyNot kl_L_48 (q0 := 0) rfl rfl rfl ((rlW_adr _ _ _ _).trans (rlW_adr _ _ _ _).symm) hl rfl rfl (Nat.le_of_ble_eq_true rfl) ⟨⟨hrm.1, hrm.2.1⟩, (by show rm.frames + 1 ≤ 9; omega), (by show 8 + (3 + 11) + rm.locals ≤ 180; omega)⟩ ⟨Nat.le_of_ble_eq_true rfl, Nat.le_of_ble_eq_true rfl⟩ dL_act_241 [⟨0, 419, 420, 88⟩] ⟨0, 419, 425, 91⟩ [⟨0, 419, 430, 94⟩] htb (fun z hz => Or.inr (by rw [List.mem_singleton.mp hz]; exact ⟨by decide, _, hT.use kx_L_88 args, hN.1⟩)) (by decide) (by decide) kx_L_91 q_cast_iae (fun q9 H locs hP hD hS => ?_)
  refine lv_astore (lv' := [(6, .ref q9), (0, .ref (ad 70)), (1, .int (nI 11)), (2, .int p0), (3, .int p1), (4, .int p2), (5, .int p3)]) hx hb dL_act_425 hl (by decide) rfl (fun ls hl => ?_)
  refine lv_ldc (v := -7000002) hx hb hown (hT.use kk_L_93 args) dL_act_427 ?_
  exact q_lret hx hb hr hlk rfl rfl hP hS (by decide) (by decide) dL_act_429
set_option maxRecDepth 100000 in
set_option maxHeartbeats 4000000 in
theorem ao_join (l : Launch) (D : va_G) (cA : ClassId) (ad : Nat → Nat) (g g2 : Nat → Nat → Int32) (z z2 : Nat → Nat) (p0 p1 p2 p3 : Int32) (rm : Room) (r : Int32) (hrm : rm.cells = 0 ∧ rm.slots = 0 ∧ rm.frames ≤ 8 ∧ rm.locals ≤ 139) (hM : q_CI l yX5_join [Cond.code yX5_join cX5_join 3 (some .int)] rm D cA (.ref (ad 70) :: [.int p0, .int p1]) (rlW cA ad g z) r (rlW cA ad g2 z2)) : q_CL l yL_act [Cond.codeWith yL_act cL_act 7 (some .int) hh_act] rm_A D cA [.ref (ad 70), .int (nI 12), .int p0, .int p1, .int p2, .int p3] (rlW cA ad g z) r (fun w => w = rlW cA ad g2 z2) := by
  refine q_startA RL (by decide +kernel) rfl (Nat.le_of_ble_eq_true rfl) ?_
  intro p e s m below meth c A args H locs ls hx hb hr hml hown hT hlk hP hK hD hA hS hl htb hX hN hZ
  have hl : lv_has ls 7 [(0, .ref (ad 70)), (1, .int (nI 12)), (2, .int p0), (3, .int p1), (4, .int p2), (5, .int p3)] := hl
  refine ac_12 hx hb hl ?_
  refine lv_aload_n hx hb dL_act_253 rfl (lv_at hl 0 rfl) ?_
  refine lv_iload_n hx hb dL_act_254 rfl (lv_at hl 2 rfl) ?_
  refine lv_iload_n hx hb dL_act_255 rfl (lv_at hl 3 rfl) ?_
  refine q_callIW (As := [.int p0, .int p1]) (r := r) (w1 := rlW cA ad g2 z2) hx hb hml hown hT hK hP hD hS hA  hM k_X5_join kl_L_51 (q0 := 0) rfl rfl rfl ((rlW_adr _ _ _ _).trans (rlW_adr _ _ _ _).symm) hl rfl rfl (Nat.le_of_ble_eq_true rfl) ⟨⟨hrm.1, hrm.2.1⟩, (by show rm.frames + 1 ≤ 9; omega), (by show 8 + (3 + 11) + rm.locals ≤ 180; omega)⟩ ⟨Nat.zero_le _, Nat.zero_le _⟩ dL_act_256 (fun H locs hP hD hS => ?_)
  refine lv_goto (tgt := 419) hx hb dL_act_259 (by decide) ?_
  exact q_lret hx hb hr hlk rfl rfl hP hS (by decide) (by decide) dL_act_419
set_option maxRecDepth 100000 in
set_option maxHeartbeats 4000000 in
theorem ax_join_iob (l : Launch) (D : va_G) (cA : ClassId) (ad : Nat → Nat) (g g2 : Nat → Nat → Int32) (z z2 : Nat → Nat) (p0 p1 p2 p3 : Int32) (rm : Room) (hrm : rm.cells = 1 ∧ rm.slots = 6 ∧ rm.frames ≤ 8 ∧ rm.locals ≤ 139) (hM : q_CX l yX5_join [Cond.code yX5_join cX5_join 3 (some .int)] rm D cA (.ref (ad 70) :: [.int p0, .int p1]) (rlW cA ad g z) "java/lang/IndexOutOfBoundsException" (rlW cA ad g2 z2)) : q_CL l yL_act [Cond.codeWith yL_act cL_act 7 (some .int) hh_act] rm_A D cA [.ref (ad 70), .int (nI 12), .int p0, .int p1, .int p2, .int p3] (rlW cA ad g z) (-7000001) (fun w => w = rlW cA ad g2 z2) := by
  refine q_startA RL (by decide +kernel) rfl (Nat.le_of_ble_eq_true rfl) ?_
  intro p e s m below meth c A args H locs ls hx hb hr hml hown hT hlk hP hK hD hA hS hl htb hX hN hZ
  have hl : lv_has ls 7 [(0, .ref (ad 70)), (1, .int (nI 12)), (2, .int p0), (3, .int p1), (4, .int p2), (5, .int p3)] := hl
  refine ac_12 hx hb hl ?_
  refine lv_aload_n hx hb dL_act_253 rfl (lv_at hl 0 rfl) ?_
  refine lv_iload_n hx hb dL_act_254 rfl (lv_at hl 2 rfl) ?_
  refine lv_iload_n hx hb dL_act_255 rfl (lv_at hl 3 rfl) ?_
  refine q_callXC (As := [.int p0, .int p1]) (w1 := rlW cA ad g2 z2) (name := "java/lang/IndexOutOfBoundsException") hx hb hml hown hT hK hP hD hS hA  hX hZ hM k_X5_join kl_L_51 (q0 := 0) rfl rfl rfl ((rlW_adr _ _ _ _).trans (rlW_adr _ _ _ _).symm) hl rfl rfl (Nat.le_of_ble_eq_true rfl) ⟨⟨hrm.1, hrm.2.1⟩, (by show rm.frames + 1 ≤ 9; omega), (by show 8 + (3 + 11) + rm.locals ≤ 180; omega)⟩ ⟨Nat.le_of_ble_eq_true rfl, Nat.le_of_ble_eq_true rfl⟩ dL_act_256 [] ⟨0, 419, 420, 88⟩ [⟨0, 419, 425, 91⟩, ⟨0, 419, 430, 94⟩] htb (fun z hz => absurd hz List.not_mem_nil) (by decide) (by decide) kx_L_88 q_cast_iob (fun q9 H locs hP hD hS => ?_)
  refine lv_astore (lv' := [(6, .ref q9), (0, .ref (ad 70)), (1, .int (nI 12)), (2, .int p0), (3, .int p1), (4, .int p2), (5, .int p3)]) hx hb dL_act_420 hl (by decide) rfl (fun ls hl => ?_)
  refine lv_ldc (v := -7000001) hx hb hown (hT.use kk_L_90 args) dL_act_422 ?_
  exact q_lret hx hb hr hlk rfl rfl hP hS (by decide) (by decide) dL_act_424
set_option maxRecDepth 100000 in
set_option maxHeartbeats 4000000 in
theorem ax_join_iae (l : Launch) (D : va_G) (cA : ClassId) (ad : Nat → Nat) (g g2 : Nat → Nat → Int32) (z z2 : Nat → Nat) (p0 p1 p2 p3 : Int32) (rm : Room) (hrm : rm.cells = 1 ∧ rm.slots = 6 ∧ rm.frames ≤ 8 ∧ rm.locals ≤ 139) (hM : q_CX l yX5_join [Cond.code yX5_join cX5_join 3 (some .int)] rm D cA (.ref (ad 70) :: [.int p0, .int p1]) (rlW cA ad g z) "java/lang/IllegalArgumentException" (rlW cA ad g2 z2)) : q_CL l yL_act [Cond.codeWith yL_act cL_act 7 (some .int) hh_act] rm_A D cA [.ref (ad 70), .int (nI 12), .int p0, .int p1, .int p2, .int p3] (rlW cA ad g z) (-7000002) (fun w => w = rlW cA ad g2 z2) := by
  refine q_startA RL (by decide +kernel) rfl (Nat.le_of_ble_eq_true rfl) ?_
  intro p e s m below meth c A args H locs ls hx hb hr hml hown hT hlk hP hK hD hA hS hl htb hX hN hZ
  have hl : lv_has ls 7 [(0, .ref (ad 70)), (1, .int (nI 12)), (2, .int p0), (3, .int p1), (4, .int p2), (5, .int p3)] := hl
  refine ac_12 hx hb hl ?_
  refine lv_aload_n hx hb dL_act_253 rfl (lv_at hl 0 rfl) ?_
  refine lv_iload_n hx hb dL_act_254 rfl (lv_at hl 2 rfl) ?_
  refine lv_iload_n hx hb dL_act_255 rfl (lv_at hl 3 rfl) ?_
  refine q_callXC (As := [.int p0, .int p1]) (w1 := rlW cA ad g2 z2) (name := "java/lang/IllegalArgumentException") hx hb hml hown hT hK hP hD hS hA  hX hZ hM k_X5_join kl_L_51 (q0 := 0) rfl rfl rfl ((rlW_adr _ _ _ _).trans (rlW_adr _ _ _ _).symm) hl rfl rfl (Nat.le_of_ble_eq_true rfl) ⟨⟨hrm.1, hrm.2.1⟩, (by show rm.frames + 1 ≤ 9; omega), (by show 8 + (3 + 11) + rm.locals ≤ 180; omega)⟩ ⟨Nat.le_of_ble_eq_true rfl, Nat.le_of_ble_eq_true rfl⟩ dL_act_256 [⟨0, 419, 420, 88⟩] ⟨0, 419, 425, 91⟩ [⟨0, 419, 430, 94⟩] htb (fun z hz => Or.inr (by rw [List.mem_singleton.mp hz]; exact ⟨by decide, _, hT.use kx_L_88 args, hN.1⟩)) (by decide) (by decide) kx_L_91 q_cast_iae (fun q9 H locs hP hD hS => ?_)
  refine lv_astore (lv' := [(6, .ref q9), (0, .ref (ad 70)), (1, .int (nI 12)), (2, .int p0), (3, .int p1), (4, .int p2), (5, .int p3)]) hx hb dL_act_425 hl (by decide) rfl (fun ls hl => ?_)
  refine lv_ldc (v := -7000002) hx hb hown (hT.use kk_L_93 args) dL_act_427 ?_
  exact q_lret hx hb hr hlk rfl rfl hP hS (by decide) (by decide) dL_act_429
set_option maxRecDepth 100000 in
set_option maxHeartbeats 4000000 in
theorem ax_join_ise (l : Launch) (D : va_G) (cA : ClassId) (ad : Nat → Nat) (g g2 : Nat → Nat → Int32) (z z2 : Nat → Nat) (p0 p1 p2 p3 : Int32) (rm : Room) (hrm : rm.cells = 1 ∧ rm.slots = 6 ∧ rm.frames ≤ 8 ∧ rm.locals ≤ 139) (hM : q_CX l yX5_join [Cond.code yX5_join cX5_join 3 (some .int)] rm D cA (.ref (ad 70) :: [.int p0, .int p1]) (rlW cA ad g z) "java/lang/IllegalStateException" (rlW cA ad g2 z2)) : q_CL l yL_act [Cond.codeWith yL_act cL_act 7 (some .int) hh_act] rm_A D cA [.ref (ad 70), .int (nI 12), .int p0, .int p1, .int p2, .int p3] (rlW cA ad g z) (-7000003) (fun w => w = rlW cA ad g2 z2) := by
  refine q_startA RL (by decide +kernel) rfl (Nat.le_of_ble_eq_true rfl) ?_
  intro p e s m below meth c A args H locs ls hx hb hr hml hown hT hlk hP hK hD hA hS hl htb hX hN hZ
  have hl : lv_has ls 7 [(0, .ref (ad 70)), (1, .int (nI 12)), (2, .int p0), (3, .int p1), (4, .int p2), (5, .int p3)] := hl
  refine ac_12 hx hb hl ?_
  refine lv_aload_n hx hb dL_act_253 rfl (lv_at hl 0 rfl) ?_
  refine lv_iload_n hx hb dL_act_254 rfl (lv_at hl 2 rfl) ?_
  refine lv_iload_n hx hb dL_act_255 rfl (lv_at hl 3 rfl) ?_
  refine q_callXC (As := [.int p0, .int p1]) (w1 := rlW cA ad g2 z2) (name := "java/lang/IllegalStateException") hx hb hml hown hT hK hP hD hS hA  hX hZ hM k_X5_join kl_L_51 (q0 := 0) rfl rfl rfl ((rlW_adr _ _ _ _).trans (rlW_adr _ _ _ _).symm) hl rfl rfl (Nat.le_of_ble_eq_true rfl) ⟨⟨hrm.1, hrm.2.1⟩, (by show rm.frames + 1 ≤ 9; omega), (by show 8 + (3 + 11) + rm.locals ≤ 180; omega)⟩ ⟨Nat.le_of_ble_eq_true rfl, Nat.le_of_ble_eq_true rfl⟩ dL_act_256 [⟨0, 419, 420, 88⟩, ⟨0, 419, 425, 91⟩] ⟨0, 419, 430, 94⟩ [] htb (fun z hz => Or.inr (by rcases List.mem_cons.mp hz with h9 | h9; (rw [h9]; exact ⟨by decide, _, hT.use kx_L_88 args, hN.2.1⟩); (rw [List.mem_singleton.mp h9]; exact ⟨by decide, _, hT.use kx_L_91 args, hN.2.2⟩))) (by decide) (by decide) kx_L_94 q_cast_ise (fun q9 H locs hP hD hS => ?_)
  refine lv_astore (lv' := [(6, .ref q9), (0, .ref (ad 70)), (1, .int (nI 12)), (2, .int p0), (3, .int p1), (4, .int p2), (5, .int p3)]) hx hb dL_act_430 hl (by decide) rfl (fun ls hl => ?_)
  refine lv_ldc (v := -7000003) hx hb hown (hT.use kk_L_96 args) dL_act_432 ?_
  exact q_lret hx hb hr hlk rfl rfl hP hS (by decide) (by decide) dL_act_434
set_option maxRecDepth 100000 in
set_option maxHeartbeats 4000000 in
theorem ao_split (l : Launch) (D : va_G) (cA : ClassId) (ad : Nat → Nat) (g g2 : Nat → Nat → Int32) (z z2 : Nat → Nat) (p0 p1 p2 p3 : Int32) (rm : Room) (r : Int32) (hrm : rm.cells = 0 ∧ rm.slots = 0 ∧ rm.frames ≤ 8 ∧ rm.locals ≤ 139) (hM : q_CI l yX5_split [Cond.code yX5_split cX5_split 2 (some .int)] rm D cA (.ref (ad 70) :: [.int p0]) (rlW cA ad g z) r (rlW cA ad g2 z2)) : q_CL l yL_act [Cond.codeWith yL_act cL_act 7 (some .int) hh_act] rm_A D cA [.ref (ad 70), .int (nI 13), .int p0, .int p1, .int p2, .int p3] (rlW cA ad g z) r (fun w => w = rlW cA ad g2 z2) := by
  refine q_startA RL (by decide +kernel) rfl (Nat.le_of_ble_eq_true rfl) ?_
  intro p e s m below meth c A args H locs ls hx hb hr hml hown hT hlk hP hK hD hA hS hl htb hX hN hZ
  have hl : lv_has ls 7 [(0, .ref (ad 70)), (1, .int (nI 13)), (2, .int p0), (3, .int p1), (4, .int p2), (5, .int p3)] := hl
  refine ac_13 hx hb hl ?_
  refine lv_aload_n hx hb dL_act_268 rfl (lv_at hl 0 rfl) ?_
  refine lv_iload_n hx hb dL_act_269 rfl (lv_at hl 2 rfl) ?_
  refine q_callIW (As := [.int p0]) (r := r) (w1 := rlW cA ad g2 z2) hx hb hml hown hT hK hP hD hS hA  hM k_X5_split kl_L_54 (q0 := 0) rfl rfl rfl ((rlW_adr _ _ _ _).trans (rlW_adr _ _ _ _).symm) hl rfl rfl (Nat.le_of_ble_eq_true rfl) ⟨⟨hrm.1, hrm.2.1⟩, (by show rm.frames + 1 ≤ 9; omega), (by show 8 + (2 + 11) + rm.locals ≤ 180; omega)⟩ ⟨Nat.zero_le _, Nat.zero_le _⟩ dL_act_270 (fun H locs hP hD hS => ?_)
  refine lv_goto (tgt := 419) hx hb dL_act_273 (by decide) ?_
  exact q_lret hx hb hr hlk rfl rfl hP hS (by decide) (by decide) dL_act_419
set_option maxRecDepth 100000 in
set_option maxHeartbeats 4000000 in
theorem ax_split_iob (l : Launch) (D : va_G) (cA : ClassId) (ad : Nat → Nat) (g g2 : Nat → Nat → Int32) (z z2 : Nat → Nat) (p0 p1 p2 p3 : Int32) (rm : Room) (hrm : rm.cells = 1 ∧ rm.slots = 6 ∧ rm.frames ≤ 8 ∧ rm.locals ≤ 139) (hM : q_CX l yX5_split [Cond.code yX5_split cX5_split 2 (some .int)] rm D cA (.ref (ad 70) :: [.int p0]) (rlW cA ad g z) "java/lang/IndexOutOfBoundsException" (rlW cA ad g2 z2)) : q_CL l yL_act [Cond.codeWith yL_act cL_act 7 (some .int) hh_act] rm_A D cA [.ref (ad 70), .int (nI 13), .int p0, .int p1, .int p2, .int p3] (rlW cA ad g z) (-7000001) (fun w => w = rlW cA ad g2 z2) := by
  refine q_startA RL (by decide +kernel) rfl (Nat.le_of_ble_eq_true rfl) ?_
  intro p e s m below meth c A args H locs ls hx hb hr hml hown hT hlk hP hK hD hA hS hl htb hX hN hZ
  have hl : lv_has ls 7 [(0, .ref (ad 70)), (1, .int (nI 13)), (2, .int p0), (3, .int p1), (4, .int p2), (5, .int p3)] := hl
  refine ac_13 hx hb hl ?_
  refine lv_aload_n hx hb dL_act_268 rfl (lv_at hl 0 rfl) ?_
  refine lv_iload_n hx hb dL_act_269 rfl (lv_at hl 2 rfl) ?_
  refine q_callXC (As := [.int p0]) (w1 := rlW cA ad g2 z2) (name := "java/lang/IndexOutOfBoundsException") hx hb hml hown hT hK hP hD hS hA  hX hZ hM k_X5_split kl_L_54 (q0 := 0) rfl rfl rfl ((rlW_adr _ _ _ _).trans (rlW_adr _ _ _ _).symm) hl rfl rfl (Nat.le_of_ble_eq_true rfl) ⟨⟨hrm.1, hrm.2.1⟩, (by show rm.frames + 1 ≤ 9; omega), (by show 8 + (2 + 11) + rm.locals ≤ 180; omega)⟩ ⟨Nat.le_of_ble_eq_true rfl, Nat.le_of_ble_eq_true rfl⟩ dL_act_270 [] ⟨0, 419, 420, 88⟩ [⟨0, 419, 425, 91⟩, ⟨0, 419, 430, 94⟩] htb (fun z hz => absurd hz List.not_mem_nil) (by decide) (by decide) kx_L_88 q_cast_iob (fun q9 H locs hP hD hS => ?_)
  refine lv_astore (lv' := [(6, .ref q9), (0, .ref (ad 70)), (1, .int (nI 13)), (2, .int p0), (3, .int p1), (4, .int p2), (5, .int p3)]) hx hb dL_act_420 hl (by decide) rfl (fun ls hl => ?_)
  refine lv_ldc (v := -7000001) hx hb hown (hT.use kk_L_90 args) dL_act_422 ?_
  exact q_lret hx hb hr hlk rfl rfl hP hS (by decide) (by decide) dL_act_424
set_option maxRecDepth 100000 in
set_option maxHeartbeats 4000000 in
theorem ax_split_ise (l : Launch) (D : va_G) (cA : ClassId) (ad : Nat → Nat) (g g2 : Nat → Nat → Int32) (z z2 : Nat → Nat) (p0 p1 p2 p3 : Int32) (rm : Room) (hrm : rm.cells = 1 ∧ rm.slots = 6 ∧ rm.frames ≤ 8 ∧ rm.locals ≤ 139) (hM : q_CX l yX5_split [Cond.code yX5_split cX5_split 2 (some .int)] rm D cA (.ref (ad 70) :: [.int p0]) (rlW cA ad g z) "java/lang/IllegalStateException" (rlW cA ad g2 z2)) : q_CL l yL_act [Cond.codeWith yL_act cL_act 7 (some .int) hh_act] rm_A D cA [.ref (ad 70), .int (nI 13), .int p0, .int p1, .int p2, .int p3] (rlW cA ad g z) (-7000003) (fun w => w = rlW cA ad g2 z2) := by
  refine q_startA RL (by decide +kernel) rfl (Nat.le_of_ble_eq_true rfl) ?_
  intro p e s m below meth c A args H locs ls hx hb hr hml hown hT hlk hP hK hD hA hS hl htb hX hN hZ
  have hl : lv_has ls 7 [(0, .ref (ad 70)), (1, .int (nI 13)), (2, .int p0), (3, .int p1), (4, .int p2), (5, .int p3)] := hl
  refine ac_13 hx hb hl ?_
  refine lv_aload_n hx hb dL_act_268 rfl (lv_at hl 0 rfl) ?_
  refine lv_iload_n hx hb dL_act_269 rfl (lv_at hl 2 rfl) ?_
  refine q_callXC (As := [.int p0]) (w1 := rlW cA ad g2 z2) (name := "java/lang/IllegalStateException") hx hb hml hown hT hK hP hD hS hA  hX hZ hM k_X5_split kl_L_54 (q0 := 0) rfl rfl rfl ((rlW_adr _ _ _ _).trans (rlW_adr _ _ _ _).symm) hl rfl rfl (Nat.le_of_ble_eq_true rfl) ⟨⟨hrm.1, hrm.2.1⟩, (by show rm.frames + 1 ≤ 9; omega), (by show 8 + (2 + 11) + rm.locals ≤ 180; omega)⟩ ⟨Nat.le_of_ble_eq_true rfl, Nat.le_of_ble_eq_true rfl⟩ dL_act_270 [⟨0, 419, 420, 88⟩, ⟨0, 419, 425, 91⟩] ⟨0, 419, 430, 94⟩ [] htb (fun z hz => Or.inr (by rcases List.mem_cons.mp hz with h9 | h9; (rw [h9]; exact ⟨by decide, _, hT.use kx_L_88 args, hN.2.1⟩); (rw [List.mem_singleton.mp h9]; exact ⟨by decide, _, hT.use kx_L_91 args, hN.2.2⟩))) (by decide) (by decide) kx_L_94 q_cast_ise (fun q9 H locs hP hD hS => ?_)
  refine lv_astore (lv' := [(6, .ref q9), (0, .ref (ad 70)), (1, .int (nI 13)), (2, .int p0), (3, .int p1), (4, .int p2), (5, .int p3)]) hx hb dL_act_430 hl (by decide) rfl (fun ls hl => ?_)
  refine lv_ldc (v := -7000003) hx hb hown (hT.use kk_L_96 args) dL_act_432 ?_
  exact q_lret hx hb hr hlk rfl rfl hP hS (by decide) (by decide) dL_act_434
set_option maxRecDepth 100000 in
set_option maxHeartbeats 4000000 in
theorem ao_person (l : Launch) (D : va_G) (cA : ClassId) (ad : Nat → Nat) (g g2 : Nat → Nat → Int32) (z z2 : Nat → Nat) (p0 p1 p2 p3 : Int32) (rm : Room) (r : Int32) (hrm : rm.cells = 0 ∧ rm.slots = 0 ∧ rm.frames ≤ 8 ∧ rm.locals ≤ 139) (hM : q_CI l yX5_person [Cond.code yX5_person cX5_person 2 (some .int)] rm D cA (.ref (ad 70) :: [.int p0]) (rlW cA ad g z) r (rlW cA ad g2 z2)) : q_CL l yL_act [Cond.codeWith yL_act cL_act 7 (some .int) hh_act] rm_A D cA [.ref (ad 70), .int (nI 14), .int p0, .int p1, .int p2, .int p3] (rlW cA ad g z) r (fun w => w = rlW cA ad g2 z2) := by
  refine q_startA RL (by decide +kernel) rfl (Nat.le_of_ble_eq_true rfl) ?_
  intro p e s m below meth c A args H locs ls hx hb hr hml hown hT hlk hP hK hD hA hS hl htb hX hN hZ
  have hl : lv_has ls 7 [(0, .ref (ad 70)), (1, .int (nI 14)), (2, .int p0), (3, .int p1), (4, .int p2), (5, .int p3)] := hl
  refine ac_14 hx hb hl ?_
  refine lv_aload_n hx hb dL_act_282 rfl (lv_at hl 0 rfl) ?_
  refine lv_iload_n hx hb dL_act_283 rfl (lv_at hl 2 rfl) ?_
  refine q_callIW (As := [.int p0]) (r := r) (w1 := rlW cA ad g2 z2) hx hb hml hown hT hK hP hD hS hA  hM k_X5_person kl_L_58 (q0 := 0) rfl rfl rfl ((rlW_adr _ _ _ _).trans (rlW_adr _ _ _ _).symm) hl rfl rfl (Nat.le_of_ble_eq_true rfl) ⟨⟨hrm.1, hrm.2.1⟩, (by show rm.frames + 1 ≤ 9; omega), (by show 8 + (2 + 11) + rm.locals ≤ 180; omega)⟩ ⟨Nat.zero_le _, Nat.zero_le _⟩ dL_act_284 (fun H locs hP hD hS => ?_)
  refine lv_goto (tgt := 419) hx hb dL_act_287 (by decide) ?_
  exact q_lret hx hb hr hlk rfl rfl hP hS (by decide) (by decide) dL_act_419
set_option maxRecDepth 100000 in
set_option maxHeartbeats 4000000 in
theorem ax_person_iob (l : Launch) (D : va_G) (cA : ClassId) (ad : Nat → Nat) (g g2 : Nat → Nat → Int32) (z z2 : Nat → Nat) (p0 p1 p2 p3 : Int32) (rm : Room) (hrm : rm.cells = 1 ∧ rm.slots = 6 ∧ rm.frames ≤ 8 ∧ rm.locals ≤ 139) (hM : q_CX l yX5_person [Cond.code yX5_person cX5_person 2 (some .int)] rm D cA (.ref (ad 70) :: [.int p0]) (rlW cA ad g z) "java/lang/IndexOutOfBoundsException" (rlW cA ad g2 z2)) : q_CL l yL_act [Cond.codeWith yL_act cL_act 7 (some .int) hh_act] rm_A D cA [.ref (ad 70), .int (nI 14), .int p0, .int p1, .int p2, .int p3] (rlW cA ad g z) (-7000001) (fun w => w = rlW cA ad g2 z2) := by
  refine q_startA RL (by decide +kernel) rfl (Nat.le_of_ble_eq_true rfl) ?_
  intro p e s m below meth c A args H locs ls hx hb hr hml hown hT hlk hP hK hD hA hS hl htb hX hN hZ
  have hl : lv_has ls 7 [(0, .ref (ad 70)), (1, .int (nI 14)), (2, .int p0), (3, .int p1), (4, .int p2), (5, .int p3)] := hl
  refine ac_14 hx hb hl ?_
  refine lv_aload_n hx hb dL_act_282 rfl (lv_at hl 0 rfl) ?_
  refine lv_iload_n hx hb dL_act_283 rfl (lv_at hl 2 rfl) ?_
  refine q_callXC (As := [.int p0]) (w1 := rlW cA ad g2 z2) (name := "java/lang/IndexOutOfBoundsException") hx hb hml hown hT hK hP hD hS hA  hX hZ hM k_X5_person kl_L_58 (q0 := 0) rfl rfl rfl ((rlW_adr _ _ _ _).trans (rlW_adr _ _ _ _).symm) hl rfl rfl (Nat.le_of_ble_eq_true rfl) ⟨⟨hrm.1, hrm.2.1⟩, (by show rm.frames + 1 ≤ 9; omega), (by show 8 + (2 + 11) + rm.locals ≤ 180; omega)⟩ ⟨Nat.le_of_ble_eq_true rfl, Nat.le_of_ble_eq_true rfl⟩ dL_act_284 [] ⟨0, 419, 420, 88⟩ [⟨0, 419, 425, 91⟩, ⟨0, 419, 430, 94⟩] htb (fun z hz => absurd hz List.not_mem_nil) (by decide) (by decide) kx_L_88 q_cast_iob (fun q9 H locs hP hD hS => ?_)
  refine lv_astore (lv' := [(6, .ref q9), (0, .ref (ad 70)), (1, .int (nI 14)), (2, .int p0), (3, .int p1), (4, .int p2), (5, .int p3)]) hx hb dL_act_420 hl (by decide) rfl (fun ls hl => ?_)
  refine lv_ldc (v := -7000001) hx hb hown (hT.use kk_L_90 args) dL_act_422 ?_
  exact q_lret hx hb hr hlk rfl rfl hP hS (by decide) (by decide) dL_act_424
set_option maxRecDepth 100000 in
set_option maxHeartbeats 4000000 in
theorem ao_entry (l : Launch) (D : va_G) (cA : ClassId) (ad : Nat → Nat) (g g2 : Nat → Nat → Int32) (z z2 : Nat → Nat) (p0 p1 p2 p3 : Int32) (rm : Room) (r : Int32) (hrm : rm.cells = 0 ∧ rm.slots = 0 ∧ rm.frames ≤ 8 ∧ rm.locals ≤ 139) (hM : q_CI l yX5_entry [Cond.code yX5_entry cX5_entry 2 (some .int)] rm D cA (.ref (ad 70) :: [.int p0]) (rlW cA ad g z) r (rlW cA ad g2 z2)) : q_CL l yL_act [Cond.codeWith yL_act cL_act 7 (some .int) hh_act] rm_A D cA [.ref (ad 70), .int (nI 15), .int p0, .int p1, .int p2, .int p3] (rlW cA ad g z) r (fun w => w = rlW cA ad g2 z2) := by
  refine q_startA RL (by decide +kernel) rfl (Nat.le_of_ble_eq_true rfl) ?_
  intro p e s m below meth c A args H locs ls hx hb hr hml hown hT hlk hP hK hD hA hS hl htb hX hN hZ
  have hl : lv_has ls 7 [(0, .ref (ad 70)), (1, .int (nI 15)), (2, .int p0), (3, .int p1), (4, .int p2), (5, .int p3)] := hl
  refine ac_15 hx hb hl ?_
  refine lv_aload_n hx hb dL_act_296 rfl (lv_at hl 0 rfl) ?_
  refine lv_iload_n hx hb dL_act_297 rfl (lv_at hl 2 rfl) ?_
  refine q_callIW (As := [.int p0]) (r := r) (w1 := rlW cA ad g2 z2) hx hb hml hown hT hK hP hD hS hA  hM k_X5_entry kl_L_61 (q0 := 0) rfl rfl rfl ((rlW_adr _ _ _ _).trans (rlW_adr _ _ _ _).symm) hl rfl rfl (Nat.le_of_ble_eq_true rfl) ⟨⟨hrm.1, hrm.2.1⟩, (by show rm.frames + 1 ≤ 9; omega), (by show 8 + (2 + 11) + rm.locals ≤ 180; omega)⟩ ⟨Nat.zero_le _, Nat.zero_le _⟩ dL_act_298 (fun H locs hP hD hS => ?_)
  refine lv_goto (tgt := 419) hx hb dL_act_301 (by decide) ?_
  exact q_lret hx hb hr hlk rfl rfl hP hS (by decide) (by decide) dL_act_419
set_option maxRecDepth 100000 in
set_option maxHeartbeats 4000000 in
theorem ax_entry_iob (l : Launch) (D : va_G) (cA : ClassId) (ad : Nat → Nat) (g g2 : Nat → Nat → Int32) (z z2 : Nat → Nat) (p0 p1 p2 p3 : Int32) (rm : Room) (hrm : rm.cells = 1 ∧ rm.slots = 6 ∧ rm.frames ≤ 8 ∧ rm.locals ≤ 139) (hM : q_CX l yX5_entry [Cond.code yX5_entry cX5_entry 2 (some .int)] rm D cA (.ref (ad 70) :: [.int p0]) (rlW cA ad g z) "java/lang/IndexOutOfBoundsException" (rlW cA ad g2 z2)) : q_CL l yL_act [Cond.codeWith yL_act cL_act 7 (some .int) hh_act] rm_A D cA [.ref (ad 70), .int (nI 15), .int p0, .int p1, .int p2, .int p3] (rlW cA ad g z) (-7000001) (fun w => w = rlW cA ad g2 z2) := by
  refine q_startA RL (by decide +kernel) rfl (Nat.le_of_ble_eq_true rfl) ?_
  intro p e s m below meth c A args H locs ls hx hb hr hml hown hT hlk hP hK hD hA hS hl htb hX hN hZ
  have hl : lv_has ls 7 [(0, .ref (ad 70)), (1, .int (nI 15)), (2, .int p0), (3, .int p1), (4, .int p2), (5, .int p3)] := hl
  refine ac_15 hx hb hl ?_
  refine lv_aload_n hx hb dL_act_296 rfl (lv_at hl 0 rfl) ?_
  refine lv_iload_n hx hb dL_act_297 rfl (lv_at hl 2 rfl) ?_
  refine q_callXC (As := [.int p0]) (w1 := rlW cA ad g2 z2) (name := "java/lang/IndexOutOfBoundsException") hx hb hml hown hT hK hP hD hS hA  hX hZ hM k_X5_entry kl_L_61 (q0 := 0) rfl rfl rfl ((rlW_adr _ _ _ _).trans (rlW_adr _ _ _ _).symm) hl rfl rfl (Nat.le_of_ble_eq_true rfl) ⟨⟨hrm.1, hrm.2.1⟩, (by show rm.frames + 1 ≤ 9; omega), (by show 8 + (2 + 11) + rm.locals ≤ 180; omega)⟩ ⟨Nat.le_of_ble_eq_true rfl, Nat.le_of_ble_eq_true rfl⟩ dL_act_298 [] ⟨0, 419, 420, 88⟩ [⟨0, 419, 425, 91⟩, ⟨0, 419, 430, 94⟩] htb (fun z hz => absurd hz List.not_mem_nil) (by decide) (by decide) kx_L_88 q_cast_iob (fun q9 H locs hP hD hS => ?_)
  refine lv_astore (lv' := [(6, .ref q9), (0, .ref (ad 70)), (1, .int (nI 15)), (2, .int p0), (3, .int p1), (4, .int p2), (5, .int p3)]) hx hb dL_act_420 hl (by decide) rfl (fun ls hl => ?_)
  refine lv_ldc (v := -7000001) hx hb hown (hT.use kk_L_90 args) dL_act_422 ?_
  exact q_lret hx hb hr hlk rfl rfl hP hS (by decide) (by decide) dL_act_424
set_option maxRecDepth 100000 in
set_option maxHeartbeats 4000000 in
theorem ao_size (l : Launch) (D : va_G) (cA : ClassId) (ad : Nat → Nat) (g g2 : Nat → Nat → Int32) (z z2 : Nat → Nat) (p0 p1 p2 p3 : Int32) (rm : Room) (r : Int32) (hrm : rm.cells = 0 ∧ rm.slots = 0 ∧ rm.frames ≤ 8 ∧ rm.locals ≤ 139) (hM : q_CI l yX5_size [Cond.code yX5_size cX5_size 2 (some .int)] rm D cA (.ref (ad 70) :: [.int p0]) (rlW cA ad g z) r (rlW cA ad g2 z2)) : q_CL l yL_act [Cond.codeWith yL_act cL_act 7 (some .int) hh_act] rm_A D cA [.ref (ad 70), .int (nI 16), .int p0, .int p1, .int p2, .int p3] (rlW cA ad g z) r (fun w => w = rlW cA ad g2 z2) := by
  refine q_startA RL (by decide +kernel) rfl (Nat.le_of_ble_eq_true rfl) ?_
  intro p e s m below meth c A args H locs ls hx hb hr hml hown hT hlk hP hK hD hA hS hl htb hX hN hZ
  have hl : lv_has ls 7 [(0, .ref (ad 70)), (1, .int (nI 16)), (2, .int p0), (3, .int p1), (4, .int p2), (5, .int p3)] := hl
  refine ac_16 hx hb hl ?_
  refine lv_aload_n hx hb dL_act_310 rfl (lv_at hl 0 rfl) ?_
  refine lv_iload_n hx hb dL_act_311 rfl (lv_at hl 2 rfl) ?_
  refine q_callIW (As := [.int p0]) (r := r) (w1 := rlW cA ad g2 z2) hx hb hml hown hT hK hP hD hS hA  hM k_X5_size kl_L_64 (q0 := 0) rfl rfl rfl ((rlW_adr _ _ _ _).trans (rlW_adr _ _ _ _).symm) hl rfl rfl (Nat.le_of_ble_eq_true rfl) ⟨⟨hrm.1, hrm.2.1⟩, (by show rm.frames + 1 ≤ 9; omega), (by show 8 + (2 + 11) + rm.locals ≤ 180; omega)⟩ ⟨Nat.zero_le _, Nat.zero_le _⟩ dL_act_312 (fun H locs hP hD hS => ?_)
  refine lv_goto (tgt := 419) hx hb dL_act_315 (by decide) ?_
  exact q_lret hx hb hr hlk rfl rfl hP hS (by decide) (by decide) dL_act_419
set_option maxRecDepth 100000 in
set_option maxHeartbeats 4000000 in
theorem ax_size_iob (l : Launch) (D : va_G) (cA : ClassId) (ad : Nat → Nat) (g g2 : Nat → Nat → Int32) (z z2 : Nat → Nat) (p0 p1 p2 p3 : Int32) (rm : Room) (hrm : rm.cells = 1 ∧ rm.slots = 6 ∧ rm.frames ≤ 8 ∧ rm.locals ≤ 139) (hM : q_CX l yX5_size [Cond.code yX5_size cX5_size 2 (some .int)] rm D cA (.ref (ad 70) :: [.int p0]) (rlW cA ad g z) "java/lang/IndexOutOfBoundsException" (rlW cA ad g2 z2)) : q_CL l yL_act [Cond.codeWith yL_act cL_act 7 (some .int) hh_act] rm_A D cA [.ref (ad 70), .int (nI 16), .int p0, .int p1, .int p2, .int p3] (rlW cA ad g z) (-7000001) (fun w => w = rlW cA ad g2 z2) := by
  refine q_startA RL (by decide +kernel) rfl (Nat.le_of_ble_eq_true rfl) ?_
  intro p e s m below meth c A args H locs ls hx hb hr hml hown hT hlk hP hK hD hA hS hl htb hX hN hZ
  have hl : lv_has ls 7 [(0, .ref (ad 70)), (1, .int (nI 16)), (2, .int p0), (3, .int p1), (4, .int p2), (5, .int p3)] := hl
  refine ac_16 hx hb hl ?_
  refine lv_aload_n hx hb dL_act_310 rfl (lv_at hl 0 rfl) ?_
  refine lv_iload_n hx hb dL_act_311 rfl (lv_at hl 2 rfl) ?_
  refine q_callXC (As := [.int p0]) (w1 := rlW cA ad g2 z2) (name := "java/lang/IndexOutOfBoundsException") hx hb hml hown hT hK hP hD hS hA  hX hZ hM k_X5_size kl_L_64 (q0 := 0) rfl rfl rfl ((rlW_adr _ _ _ _).trans (rlW_adr _ _ _ _).symm) hl rfl rfl (Nat.le_of_ble_eq_true rfl) ⟨⟨hrm.1, hrm.2.1⟩, (by show rm.frames + 1 ≤ 9; omega), (by show 8 + (2 + 11) + rm.locals ≤ 180; omega)⟩ ⟨Nat.le_of_ble_eq_true rfl, Nat.le_of_ble_eq_true rfl⟩ dL_act_312 [] ⟨0, 419, 420, 88⟩ [⟨0, 419, 425, 91⟩, ⟨0, 419, 430, 94⟩] htb (fun z hz => absurd hz List.not_mem_nil) (by decide) (by decide) kx_L_88 q_cast_iob (fun q9 H locs hP hD hS => ?_)
  refine lv_astore (lv' := [(6, .ref q9), (0, .ref (ad 70)), (1, .int (nI 16)), (2, .int p0), (3, .int p1), (4, .int p2), (5, .int p3)]) hx hb dL_act_420 hl (by decide) rfl (fun ls hl => ?_)
  refine lv_ldc (v := -7000001) hx hb hown (hT.use kk_L_90 args) dL_act_422 ?_
  exact q_lret hx hb hr hlk rfl rfl hP hS (by decide) (by decide) dL_act_424
set_option maxRecDepth 100000 in
set_option maxHeartbeats 4000000 in
theorem ao_careerAt (l : Launch) (D : va_G) (cA : ClassId) (ad : Nat → Nat) (g g2 : Nat → Nat → Int32) (z z2 : Nat → Nat) (p0 p1 p2 p3 : Int32) (rm : Room) (r : Int32) (hrm : rm.cells = 0 ∧ rm.slots = 0 ∧ rm.frames ≤ 8 ∧ rm.locals ≤ 139) (hM : q_CI l yX5_careerAt [Cond.code yX5_careerAt cX5_careerAt 4 (some .int)] rm D cA (.ref (ad 70) :: [.int p0, .int p1]) (rlW cA ad g z) r (rlW cA ad g2 z2)) : q_CL l yL_act [Cond.codeWith yL_act cL_act 7 (some .int) hh_act] rm_A D cA [.ref (ad 70), .int (nI 17), .int p0, .int p1, .int p2, .int p3] (rlW cA ad g z) r (fun w => w = rlW cA ad g2 z2) := by
  refine q_startA RL (by decide +kernel) rfl (Nat.le_of_ble_eq_true rfl) ?_
  intro p e s m below meth c A args H locs ls hx hb hr hml hown hT hlk hP hK hD hA hS hl htb hX hN hZ
  have hl : lv_has ls 7 [(0, .ref (ad 70)), (1, .int (nI 17)), (2, .int p0), (3, .int p1), (4, .int p2), (5, .int p3)] := hl
  refine ac_17 hx hb hl ?_
  refine lv_aload_n hx hb dL_act_324 rfl (lv_at hl 0 rfl) ?_
  refine lv_iload_n hx hb dL_act_325 rfl (lv_at hl 2 rfl) ?_
  refine lv_iload_n hx hb dL_act_326 rfl (lv_at hl 3 rfl) ?_
  refine q_callIW (As := [.int p0, .int p1]) (r := r) (w1 := rlW cA ad g2 z2) hx hb hml hown hT hK hP hD hS hA  hM k_X5_careerAt kl_L_67 (q0 := 0) rfl rfl rfl ((rlW_adr _ _ _ _).trans (rlW_adr _ _ _ _).symm) hl rfl rfl (Nat.le_of_ble_eq_true rfl) ⟨⟨hrm.1, hrm.2.1⟩, (by show rm.frames + 1 ≤ 9; omega), (by show 8 + (4 + 11) + rm.locals ≤ 180; omega)⟩ ⟨Nat.zero_le _, Nat.zero_le _⟩ dL_act_327 (fun H locs hP hD hS => ?_)
  refine lv_goto (tgt := 419) hx hb dL_act_330 (by decide) ?_
  exact q_lret hx hb hr hlk rfl rfl hP hS (by decide) (by decide) dL_act_419
set_option maxRecDepth 100000 in
set_option maxHeartbeats 4000000 in
theorem ax_careerAt_iob (l : Launch) (D : va_G) (cA : ClassId) (ad : Nat → Nat) (g g2 : Nat → Nat → Int32) (z z2 : Nat → Nat) (p0 p1 p2 p3 : Int32) (rm : Room) (hrm : rm.cells = 1 ∧ rm.slots = 6 ∧ rm.frames ≤ 8 ∧ rm.locals ≤ 139) (hM : q_CX l yX5_careerAt [Cond.code yX5_careerAt cX5_careerAt 4 (some .int)] rm D cA (.ref (ad 70) :: [.int p0, .int p1]) (rlW cA ad g z) "java/lang/IndexOutOfBoundsException" (rlW cA ad g2 z2)) : q_CL l yL_act [Cond.codeWith yL_act cL_act 7 (some .int) hh_act] rm_A D cA [.ref (ad 70), .int (nI 17), .int p0, .int p1, .int p2, .int p3] (rlW cA ad g z) (-7000001) (fun w => w = rlW cA ad g2 z2) := by
  refine q_startA RL (by decide +kernel) rfl (Nat.le_of_ble_eq_true rfl) ?_
  intro p e s m below meth c A args H locs ls hx hb hr hml hown hT hlk hP hK hD hA hS hl htb hX hN hZ
  have hl : lv_has ls 7 [(0, .ref (ad 70)), (1, .int (nI 17)), (2, .int p0), (3, .int p1), (4, .int p2), (5, .int p3)] := hl
  refine ac_17 hx hb hl ?_
  refine lv_aload_n hx hb dL_act_324 rfl (lv_at hl 0 rfl) ?_
  refine lv_iload_n hx hb dL_act_325 rfl (lv_at hl 2 rfl) ?_
  refine lv_iload_n hx hb dL_act_326 rfl (lv_at hl 3 rfl) ?_
  refine q_callXC (As := [.int p0, .int p1]) (w1 := rlW cA ad g2 z2) (name := "java/lang/IndexOutOfBoundsException") hx hb hml hown hT hK hP hD hS hA  hX hZ hM k_X5_careerAt kl_L_67 (q0 := 0) rfl rfl rfl ((rlW_adr _ _ _ _).trans (rlW_adr _ _ _ _).symm) hl rfl rfl (Nat.le_of_ble_eq_true rfl) ⟨⟨hrm.1, hrm.2.1⟩, (by show rm.frames + 1 ≤ 9; omega), (by show 8 + (4 + 11) + rm.locals ≤ 180; omega)⟩ ⟨Nat.le_of_ble_eq_true rfl, Nat.le_of_ble_eq_true rfl⟩ dL_act_327 [] ⟨0, 419, 420, 88⟩ [⟨0, 419, 425, 91⟩, ⟨0, 419, 430, 94⟩] htb (fun z hz => absurd hz List.not_mem_nil) (by decide) (by decide) kx_L_88 q_cast_iob (fun q9 H locs hP hD hS => ?_)
  refine lv_astore (lv' := [(6, .ref q9), (0, .ref (ad 70)), (1, .int (nI 17)), (2, .int p0), (3, .int p1), (4, .int p2), (5, .int p3)]) hx hb dL_act_420 hl (by decide) rfl (fun ls hl => ?_)
  refine lv_ldc (v := -7000001) hx hb hown (hT.use kk_L_90 args) dL_act_422 ?_
  exact q_lret hx hb hr hlk rfl rfl hP hS (by decide) (by decide) dL_act_424
set_option maxRecDepth 100000 in
set_option maxHeartbeats 4000000 in
theorem ao_breaches (l : Launch) (D : va_G) (cA : ClassId) (ad : Nat → Nat) (g g2 : Nat → Nat → Int32) (z z2 : Nat → Nat) (p0 p1 p2 p3 : Int32) (rm : Room) (r : Int32) (hrm : rm.cells = 0 ∧ rm.slots = 0 ∧ rm.frames ≤ 8 ∧ rm.locals ≤ 139) (hM : q_CI l yX5_breaches [Cond.code yX5_breaches cX5_breaches 5 (some .int)] rm D cA (.ref (ad 70) :: [.int p0]) (rlW cA ad g z) r (rlW cA ad g2 z2)) : q_CL l yL_act [Cond.codeWith yL_act cL_act 7 (some .int) hh_act] rm_A D cA [.ref (ad 70), .int (nI 18), .int p0, .int p1, .int p2, .int p3] (rlW cA ad g z) r (fun w => w = rlW cA ad g2 z2) := by
  refine q_startA RL (by decide +kernel) rfl (Nat.le_of_ble_eq_true rfl) ?_
  intro p e s m below meth c A args H locs ls hx hb hr hml hown hT hlk hP hK hD hA hS hl htb hX hN hZ
  have hl : lv_has ls 7 [(0, .ref (ad 70)), (1, .int (nI 18)), (2, .int p0), (3, .int p1), (4, .int p2), (5, .int p3)] := hl
  refine ac_18 hx hb hl ?_
  refine lv_aload_n hx hb dL_act_339 rfl (lv_at hl 0 rfl) ?_
  refine lv_iload_n hx hb dL_act_340 rfl (lv_at hl 2 rfl) ?_
  refine q_callIW (As := [.int p0]) (r := r) (w1 := rlW cA ad g2 z2) hx hb hml hown hT hK hP hD hS hA  hM k_X5_breaches kl_L_70 (q0 := 0) rfl rfl rfl ((rlW_adr _ _ _ _).trans (rlW_adr _ _ _ _).symm) hl rfl rfl (Nat.le_of_ble_eq_true rfl) ⟨⟨hrm.1, hrm.2.1⟩, (by show rm.frames + 1 ≤ 9; omega), (by show 8 + (5 + 11) + rm.locals ≤ 180; omega)⟩ ⟨Nat.zero_le _, Nat.zero_le _⟩ dL_act_341 (fun H locs hP hD hS => ?_)
  refine lv_goto (tgt := 419) hx hb dL_act_344 (by decide) ?_
  exact q_lret hx hb hr hlk rfl rfl hP hS (by decide) (by decide) dL_act_419
set_option maxRecDepth 100000 in
set_option maxHeartbeats 4000000 in
theorem ax_breaches_iob (l : Launch) (D : va_G) (cA : ClassId) (ad : Nat → Nat) (g g2 : Nat → Nat → Int32) (z z2 : Nat → Nat) (p0 p1 p2 p3 : Int32) (rm : Room) (hrm : rm.cells = 1 ∧ rm.slots = 6 ∧ rm.frames ≤ 8 ∧ rm.locals ≤ 139) (hM : q_CX l yX5_breaches [Cond.code yX5_breaches cX5_breaches 5 (some .int)] rm D cA (.ref (ad 70) :: [.int p0]) (rlW cA ad g z) "java/lang/IndexOutOfBoundsException" (rlW cA ad g2 z2)) : q_CL l yL_act [Cond.codeWith yL_act cL_act 7 (some .int) hh_act] rm_A D cA [.ref (ad 70), .int (nI 18), .int p0, .int p1, .int p2, .int p3] (rlW cA ad g z) (-7000001) (fun w => w = rlW cA ad g2 z2) := by
  refine q_startA RL (by decide +kernel) rfl (Nat.le_of_ble_eq_true rfl) ?_
  intro p e s m below meth c A args H locs ls hx hb hr hml hown hT hlk hP hK hD hA hS hl htb hX hN hZ
  have hl : lv_has ls 7 [(0, .ref (ad 70)), (1, .int (nI 18)), (2, .int p0), (3, .int p1), (4, .int p2), (5, .int p3)] := hl
  refine ac_18 hx hb hl ?_
  refine lv_aload_n hx hb dL_act_339 rfl (lv_at hl 0 rfl) ?_
  refine lv_iload_n hx hb dL_act_340 rfl (lv_at hl 2 rfl) ?_
  refine q_callXC (As := [.int p0]) (w1 := rlW cA ad g2 z2) (name := "java/lang/IndexOutOfBoundsException") hx hb hml hown hT hK hP hD hS hA  hX hZ hM k_X5_breaches kl_L_70 (q0 := 0) rfl rfl rfl ((rlW_adr _ _ _ _).trans (rlW_adr _ _ _ _).symm) hl rfl rfl (Nat.le_of_ble_eq_true rfl) ⟨⟨hrm.1, hrm.2.1⟩, (by show rm.frames + 1 ≤ 9; omega), (by show 8 + (5 + 11) + rm.locals ≤ 180; omega)⟩ ⟨Nat.le_of_ble_eq_true rfl, Nat.le_of_ble_eq_true rfl⟩ dL_act_341 [] ⟨0, 419, 420, 88⟩ [⟨0, 419, 425, 91⟩, ⟨0, 419, 430, 94⟩] htb (fun z hz => absurd hz List.not_mem_nil) (by decide) (by decide) kx_L_88 q_cast_iob (fun q9 H locs hP hD hS => ?_)
  refine lv_astore (lv' := [(6, .ref q9), (0, .ref (ad 70)), (1, .int (nI 18)), (2, .int p0), (3, .int p1), (4, .int p2), (5, .int p3)]) hx hb dL_act_420 hl (by decide) rfl (fun ls hl => ?_)
  refine lv_ldc (v := -7000001) hx hb hown (hT.use kk_L_90 args) dL_act_422 ?_
  exact q_lret hx hb hr hlk rfl rfl hP hS (by decide) (by decide) dL_act_424
set_option maxRecDepth 100000 in
set_option maxHeartbeats 4000000 in
theorem ao_kin (l : Launch) (D : va_G) (cA : ClassId) (ad : Nat → Nat) (g g2 : Nat → Nat → Int32) (z z2 : Nat → Nat) (p0 p1 p2 p3 : Int32) (rm : Room) (bb : Bool) (hrm : rm.cells = 0 ∧ rm.slots = 0 ∧ rm.frames ≤ 8 ∧ rm.locals ≤ 139) (hM : q_CI l yX5_kin [Cond.code yX5_kin cX5_kin 3 (some .boolean)] rm D cA (.ref (ad 70) :: [.int p0, .int p1]) (rlW cA ad g z) (q_b bb) (rlW cA ad g2 z2)) : q_CL l yL_act [Cond.codeWith yL_act cL_act 7 (some .int) hh_act] rm_A D cA [.ref (ad 70), .int (nI 19), .int p0, .int p1, .int p2, .int p3] (rlW cA ad g z) (q_b bb) (fun w => w = rlW cA ad g2 z2) := by
  refine q_startA RL (by decide +kernel) rfl (Nat.le_of_ble_eq_true rfl) ?_
  intro p e s m below meth c A args H locs ls hx hb hr hml hown hT hlk hP hK hD hA hS hl htb hX hN hZ
  have hl : lv_has ls 7 [(0, .ref (ad 70)), (1, .int (nI 19)), (2, .int p0), (3, .int p1), (4, .int p2), (5, .int p3)] := hl
  refine ac_19 hx hb hl ?_
  refine lv_aload_n hx hb dL_act_353 rfl (lv_at hl 0 rfl) ?_
  refine lv_iload_n hx hb dL_act_354 rfl (lv_at hl 2 rfl) ?_
  refine lv_iload_n hx hb dL_act_355 rfl (lv_at hl 3 rfl) ?_
  refine q_callIW (As := [.int p0, .int p1]) (r := (q_b bb)) (w1 := rlW cA ad g2 z2) hx hb hml hown hT hK hP hD hS hA  hM k_X5_kin kl_L_73 (q0 := 0) rfl rfl rfl ((rlW_adr _ _ _ _).trans (rlW_adr _ _ _ _).symm) hl rfl rfl (Nat.le_of_ble_eq_true rfl) ⟨⟨hrm.1, hrm.2.1⟩, (by show rm.frames + 1 ≤ 9; omega), (by show 8 + (3 + 11) + rm.locals ≤ 180; omega)⟩ ⟨Nat.zero_le _, Nat.zero_le _⟩ dL_act_356 (fun H locs hP hD hS => ?_)
  refine lv_if_eq (tgt := 366) hx hb dL_act_359 (by decide) (fun c9 => ?_) (fun c9 => ?_)
  · have c9 := q_b0e c9
    subst c9
    refine lv_iconst (v := nI 0) hx hb dL_act_366 (by decide +kernel) ?_
    refine lv_goto (tgt := 419) hx hb dL_act_367 (by decide) ?_
    exact q_lret hx hb hr hlk rfl rfl hP hS (by decide) (by decide) dL_act_419
  · have c9 := q_b0n c9
    subst c9
    refine lv_iconst (v := nI 1) hx hb dL_act_362 (by decide +kernel) ?_
    refine lv_goto (tgt := 419) hx hb dL_act_363 (by decide) ?_
    exact q_lret hx hb hr hlk rfl rfl hP hS (by decide) (by decide) dL_act_419
set_option maxRecDepth 100000 in
set_option maxHeartbeats 4000000 in
theorem ax_kin_iob (l : Launch) (D : va_G) (cA : ClassId) (ad : Nat → Nat) (g g2 : Nat → Nat → Int32) (z z2 : Nat → Nat) (p0 p1 p2 p3 : Int32) (rm : Room) (hrm : rm.cells = 1 ∧ rm.slots = 6 ∧ rm.frames ≤ 8 ∧ rm.locals ≤ 139) (hM : q_CX l yX5_kin [Cond.code yX5_kin cX5_kin 3 (some .boolean)] rm D cA (.ref (ad 70) :: [.int p0, .int p1]) (rlW cA ad g z) "java/lang/IndexOutOfBoundsException" (rlW cA ad g2 z2)) : q_CL l yL_act [Cond.codeWith yL_act cL_act 7 (some .int) hh_act] rm_A D cA [.ref (ad 70), .int (nI 19), .int p0, .int p1, .int p2, .int p3] (rlW cA ad g z) (-7000001) (fun w => w = rlW cA ad g2 z2) := by
  refine q_startA RL (by decide +kernel) rfl (Nat.le_of_ble_eq_true rfl) ?_
  intro p e s m below meth c A args H locs ls hx hb hr hml hown hT hlk hP hK hD hA hS hl htb hX hN hZ
  have hl : lv_has ls 7 [(0, .ref (ad 70)), (1, .int (nI 19)), (2, .int p0), (3, .int p1), (4, .int p2), (5, .int p3)] := hl
  refine ac_19 hx hb hl ?_
  refine lv_aload_n hx hb dL_act_353 rfl (lv_at hl 0 rfl) ?_
  refine lv_iload_n hx hb dL_act_354 rfl (lv_at hl 2 rfl) ?_
  refine lv_iload_n hx hb dL_act_355 rfl (lv_at hl 3 rfl) ?_
  refine q_callXC (As := [.int p0, .int p1]) (w1 := rlW cA ad g2 z2) (name := "java/lang/IndexOutOfBoundsException") hx hb hml hown hT hK hP hD hS hA  hX hZ hM k_X5_kin kl_L_73 (q0 := 0) rfl rfl rfl ((rlW_adr _ _ _ _).trans (rlW_adr _ _ _ _).symm) hl rfl rfl (Nat.le_of_ble_eq_true rfl) ⟨⟨hrm.1, hrm.2.1⟩, (by show rm.frames + 1 ≤ 9; omega), (by show 8 + (3 + 11) + rm.locals ≤ 180; omega)⟩ ⟨Nat.le_of_ble_eq_true rfl, Nat.le_of_ble_eq_true rfl⟩ dL_act_356 [] ⟨0, 419, 420, 88⟩ [⟨0, 419, 425, 91⟩, ⟨0, 419, 430, 94⟩] htb (fun z hz => absurd hz List.not_mem_nil) (by decide) (by decide) kx_L_88 q_cast_iob (fun q9 H locs hP hD hS => ?_)
  refine lv_astore (lv' := [(6, .ref q9), (0, .ref (ad 70)), (1, .int (nI 19)), (2, .int p0), (3, .int p1), (4, .int p2), (5, .int p3)]) hx hb dL_act_420 hl (by decide) rfl (fun ls hl => ?_)
  refine lv_ldc (v := -7000001) hx hb hown (hT.use kk_L_90 args) dL_act_422 ?_
  exact q_lret hx hb hr hlk rfl rfl hP hS (by decide) (by decide) dL_act_424
set_option maxRecDepth 100000 in
set_option maxHeartbeats 4000000 in
theorem ax_kin_iae (l : Launch) (D : va_G) (cA : ClassId) (ad : Nat → Nat) (g g2 : Nat → Nat → Int32) (z z2 : Nat → Nat) (p0 p1 p2 p3 : Int32) (rm : Room) (hrm : rm.cells = 1 ∧ rm.slots = 6 ∧ rm.frames ≤ 8 ∧ rm.locals ≤ 139) (hM : q_CX l yX5_kin [Cond.code yX5_kin cX5_kin 3 (some .boolean)] rm D cA (.ref (ad 70) :: [.int p0, .int p1]) (rlW cA ad g z) "java/lang/IllegalArgumentException" (rlW cA ad g2 z2)) : q_CL l yL_act [Cond.codeWith yL_act cL_act 7 (some .int) hh_act] rm_A D cA [.ref (ad 70), .int (nI 19), .int p0, .int p1, .int p2, .int p3] (rlW cA ad g z) (-7000002) (fun w => w = rlW cA ad g2 z2) := by
  refine q_startA RL (by decide +kernel) rfl (Nat.le_of_ble_eq_true rfl) ?_
  intro p e s m below meth c A args H locs ls hx hb hr hml hown hT hlk hP hK hD hA hS hl htb hX hN hZ
  have hl : lv_has ls 7 [(0, .ref (ad 70)), (1, .int (nI 19)), (2, .int p0), (3, .int p1), (4, .int p2), (5, .int p3)] := hl
  refine ac_19 hx hb hl ?_
  refine lv_aload_n hx hb dL_act_353 rfl (lv_at hl 0 rfl) ?_
  refine lv_iload_n hx hb dL_act_354 rfl (lv_at hl 2 rfl) ?_
  refine lv_iload_n hx hb dL_act_355 rfl (lv_at hl 3 rfl) ?_
  refine q_callXC (As := [.int p0, .int p1]) (w1 := rlW cA ad g2 z2) (name := "java/lang/IllegalArgumentException") hx hb hml hown hT hK hP hD hS hA  hX hZ hM k_X5_kin kl_L_73 (q0 := 0) rfl rfl rfl ((rlW_adr _ _ _ _).trans (rlW_adr _ _ _ _).symm) hl rfl rfl (Nat.le_of_ble_eq_true rfl) ⟨⟨hrm.1, hrm.2.1⟩, (by show rm.frames + 1 ≤ 9; omega), (by show 8 + (3 + 11) + rm.locals ≤ 180; omega)⟩ ⟨Nat.le_of_ble_eq_true rfl, Nat.le_of_ble_eq_true rfl⟩ dL_act_356 [⟨0, 419, 420, 88⟩] ⟨0, 419, 425, 91⟩ [⟨0, 419, 430, 94⟩] htb (fun z hz => Or.inr (by rw [List.mem_singleton.mp hz]; exact ⟨by decide, _, hT.use kx_L_88 args, hN.1⟩)) (by decide) (by decide) kx_L_91 q_cast_iae (fun q9 H locs hP hD hS => ?_)
  refine lv_astore (lv' := [(6, .ref q9), (0, .ref (ad 70)), (1, .int (nI 19)), (2, .int p0), (3, .int p1), (4, .int p2), (5, .int p3)]) hx hb dL_act_425 hl (by decide) rfl (fun ls hl => ?_)
  refine lv_ldc (v := -7000002) hx hb hown (hT.use kk_L_93 args) dL_act_427 ?_
  exact q_lret hx hb hr hlk rfl rfl hP hS (by decide) (by decide) dL_act_429
set_option maxRecDepth 100000 in
set_option maxHeartbeats 4000000 in
theorem ao_degree (l : Launch) (D : va_G) (cA : ClassId) (ad : Nat → Nat) (g g2 : Nat → Nat → Int32) (z z2 : Nat → Nat) (p0 p1 p2 p3 : Int32) (rm : Room) (r : Int32) (hrm : rm.cells = 0 ∧ rm.slots = 0 ∧ rm.frames ≤ 8 ∧ rm.locals ≤ 139) (hM : q_CI l yX5_degree [Cond.code yX5_degree cX5_degree 3 (some .int)] rm D cA (.ref (ad 70) :: [.int p0, .int p1]) (rlW cA ad g z) r (rlW cA ad g2 z2)) : q_CL l yL_act [Cond.codeWith yL_act cL_act 7 (some .int) hh_act] rm_A D cA [.ref (ad 70), .int (nI 20), .int p0, .int p1, .int p2, .int p3] (rlW cA ad g z) r (fun w => w = rlW cA ad g2 z2) := by
  refine q_startA RL (by decide +kernel) rfl (Nat.le_of_ble_eq_true rfl) ?_
  intro p e s m below meth c A args H locs ls hx hb hr hml hown hT hlk hP hK hD hA hS hl htb hX hN hZ
  have hl : lv_has ls 7 [(0, .ref (ad 70)), (1, .int (nI 20)), (2, .int p0), (3, .int p1), (4, .int p2), (5, .int p3)] := hl
  refine ac_20 hx hb hl ?_
  refine lv_aload_n hx hb dL_act_376 rfl (lv_at hl 0 rfl) ?_
  refine lv_iload_n hx hb dL_act_377 rfl (lv_at hl 2 rfl) ?_
  refine lv_iload_n hx hb dL_act_378 rfl (lv_at hl 3 rfl) ?_
  refine q_callIW (As := [.int p0, .int p1]) (r := r) (w1 := rlW cA ad g2 z2) hx hb hml hown hT hK hP hD hS hA  hM k_X5_degree kl_L_76 (q0 := 0) rfl rfl rfl ((rlW_adr _ _ _ _).trans (rlW_adr _ _ _ _).symm) hl rfl rfl (Nat.le_of_ble_eq_true rfl) ⟨⟨hrm.1, hrm.2.1⟩, (by show rm.frames + 1 ≤ 9; omega), (by show 8 + (3 + 11) + rm.locals ≤ 180; omega)⟩ ⟨Nat.zero_le _, Nat.zero_le _⟩ dL_act_379 (fun H locs hP hD hS => ?_)
  refine lv_goto (tgt := 419) hx hb dL_act_382 (by decide) ?_
  exact q_lret hx hb hr hlk rfl rfl hP hS (by decide) (by decide) dL_act_419
set_option maxRecDepth 100000 in
set_option maxHeartbeats 4000000 in
theorem ax_degree_iob (l : Launch) (D : va_G) (cA : ClassId) (ad : Nat → Nat) (g g2 : Nat → Nat → Int32) (z z2 : Nat → Nat) (p0 p1 p2 p3 : Int32) (rm : Room) (hrm : rm.cells = 1 ∧ rm.slots = 6 ∧ rm.frames ≤ 8 ∧ rm.locals ≤ 139) (hM : q_CX l yX5_degree [Cond.code yX5_degree cX5_degree 3 (some .int)] rm D cA (.ref (ad 70) :: [.int p0, .int p1]) (rlW cA ad g z) "java/lang/IndexOutOfBoundsException" (rlW cA ad g2 z2)) : q_CL l yL_act [Cond.codeWith yL_act cL_act 7 (some .int) hh_act] rm_A D cA [.ref (ad 70), .int (nI 20), .int p0, .int p1, .int p2, .int p3] (rlW cA ad g z) (-7000001) (fun w => w = rlW cA ad g2 z2) := by
  refine q_startA RL (by decide +kernel) rfl (Nat.le_of_ble_eq_true rfl) ?_
  intro p e s m below meth c A args H locs ls hx hb hr hml hown hT hlk hP hK hD hA hS hl htb hX hN hZ
  have hl : lv_has ls 7 [(0, .ref (ad 70)), (1, .int (nI 20)), (2, .int p0), (3, .int p1), (4, .int p2), (5, .int p3)] := hl
  refine ac_20 hx hb hl ?_
  refine lv_aload_n hx hb dL_act_376 rfl (lv_at hl 0 rfl) ?_
  refine lv_iload_n hx hb dL_act_377 rfl (lv_at hl 2 rfl) ?_
  refine lv_iload_n hx hb dL_act_378 rfl (lv_at hl 3 rfl) ?_
  refine q_callXC (As := [.int p0, .int p1]) (w1 := rlW cA ad g2 z2) (name := "java/lang/IndexOutOfBoundsException") hx hb hml hown hT hK hP hD hS hA  hX hZ hM k_X5_degree kl_L_76 (q0 := 0) rfl rfl rfl ((rlW_adr _ _ _ _).trans (rlW_adr _ _ _ _).symm) hl rfl rfl (Nat.le_of_ble_eq_true rfl) ⟨⟨hrm.1, hrm.2.1⟩, (by show rm.frames + 1 ≤ 9; omega), (by show 8 + (3 + 11) + rm.locals ≤ 180; omega)⟩ ⟨Nat.le_of_ble_eq_true rfl, Nat.le_of_ble_eq_true rfl⟩ dL_act_379 [] ⟨0, 419, 420, 88⟩ [⟨0, 419, 425, 91⟩, ⟨0, 419, 430, 94⟩] htb (fun z hz => absurd hz List.not_mem_nil) (by decide) (by decide) kx_L_88 q_cast_iob (fun q9 H locs hP hD hS => ?_)
  refine lv_astore (lv' := [(6, .ref q9), (0, .ref (ad 70)), (1, .int (nI 20)), (2, .int p0), (3, .int p1), (4, .int p2), (5, .int p3)]) hx hb dL_act_420 hl (by decide) rfl (fun ls hl => ?_)
  refine lv_ldc (v := -7000001) hx hb hown (hT.use kk_L_90 args) dL_act_422 ?_
  exact q_lret hx hb hr hlk rfl rfl hP hS (by decide) (by decide) dL_act_424
set_option maxRecDepth 100000 in
set_option maxHeartbeats 4000000 in
theorem ao_best (l : Launch) (D : va_G) (cA : ClassId) (ad : Nat → Nat) (g g2 : Nat → Nat → Int32) (z z2 : Nat → Nat) (p0 p1 p2 p3 : Int32) (rm : Room) (r : Int32) (hrm : rm.cells = 0 ∧ rm.slots = 0 ∧ rm.frames ≤ 8 ∧ rm.locals ≤ 139) (hM : q_CI l yX5_best [Cond.code yX5_best cX5_best 2 (some .int)] rm D cA (.ref (ad 70) :: [.int p0]) (rlW cA ad g z) r (rlW cA ad g2 z2)) : q_CL l yL_act [Cond.codeWith yL_act cL_act 7 (some .int) hh_act] rm_A D cA [.ref (ad 70), .int (nI 21), .int p0, .int p1, .int p2, .int p3] (rlW cA ad g z) r (fun w => w = rlW cA ad g2 z2) := by
  refine q_startA RL (by decide +kernel) rfl (Nat.le_of_ble_eq_true rfl) ?_
  intro p e s m below meth c A args H locs ls hx hb hr hml hown hT hlk hP hK hD hA hS hl htb hX hN hZ
  have hl : lv_has ls 7 [(0, .ref (ad 70)), (1, .int (nI 21)), (2, .int p0), (3, .int p1), (4, .int p2), (5, .int p3)] := hl
  refine ac_21 hx hb hl ?_
  refine lv_aload_n hx hb dL_act_391 rfl (lv_at hl 0 rfl) ?_
  refine lv_iload_n hx hb dL_act_392 rfl (lv_at hl 2 rfl) ?_
  refine q_callIW (As := [.int p0]) (r := r) (w1 := rlW cA ad g2 z2) hx hb hml hown hT hK hP hD hS hA  hM k_X5_best kl_L_79 (q0 := 0) rfl rfl rfl ((rlW_adr _ _ _ _).trans (rlW_adr _ _ _ _).symm) hl rfl rfl (Nat.le_of_ble_eq_true rfl) ⟨⟨hrm.1, hrm.2.1⟩, (by show rm.frames + 1 ≤ 9; omega), (by show 8 + (2 + 11) + rm.locals ≤ 180; omega)⟩ ⟨Nat.zero_le _, Nat.zero_le _⟩ dL_act_393 (fun H locs hP hD hS => ?_)
  refine lv_goto (tgt := 419) hx hb dL_act_396 (by decide) ?_
  exact q_lret hx hb hr hlk rfl rfl hP hS (by decide) (by decide) dL_act_419
set_option maxRecDepth 100000 in
set_option maxHeartbeats 4000000 in
theorem ax_best_iae (l : Launch) (D : va_G) (cA : ClassId) (ad : Nat → Nat) (g g2 : Nat → Nat → Int32) (z z2 : Nat → Nat) (p0 p1 p2 p3 : Int32) (rm : Room) (hrm : rm.cells = 1 ∧ rm.slots = 6 ∧ rm.frames ≤ 8 ∧ rm.locals ≤ 139) (hM : q_CX l yX5_best [Cond.code yX5_best cX5_best 2 (some .int)] rm D cA (.ref (ad 70) :: [.int p0]) (rlW cA ad g z) "java/lang/IllegalArgumentException" (rlW cA ad g2 z2)) : q_CL l yL_act [Cond.codeWith yL_act cL_act 7 (some .int) hh_act] rm_A D cA [.ref (ad 70), .int (nI 21), .int p0, .int p1, .int p2, .int p3] (rlW cA ad g z) (-7000002) (fun w => w = rlW cA ad g2 z2) := by
  refine q_startA RL (by decide +kernel) rfl (Nat.le_of_ble_eq_true rfl) ?_
  intro p e s m below meth c A args H locs ls hx hb hr hml hown hT hlk hP hK hD hA hS hl htb hX hN hZ
  have hl : lv_has ls 7 [(0, .ref (ad 70)), (1, .int (nI 21)), (2, .int p0), (3, .int p1), (4, .int p2), (5, .int p3)] := hl
  refine ac_21 hx hb hl ?_
  refine lv_aload_n hx hb dL_act_391 rfl (lv_at hl 0 rfl) ?_
  refine lv_iload_n hx hb dL_act_392 rfl (lv_at hl 2 rfl) ?_
  refine q_callXC (As := [.int p0]) (w1 := rlW cA ad g2 z2) (name := "java/lang/IllegalArgumentException") hx hb hml hown hT hK hP hD hS hA  hX hZ hM k_X5_best kl_L_79 (q0 := 0) rfl rfl rfl ((rlW_adr _ _ _ _).trans (rlW_adr _ _ _ _).symm) hl rfl rfl (Nat.le_of_ble_eq_true rfl) ⟨⟨hrm.1, hrm.2.1⟩, (by show rm.frames + 1 ≤ 9; omega), (by show 8 + (2 + 11) + rm.locals ≤ 180; omega)⟩ ⟨Nat.le_of_ble_eq_true rfl, Nat.le_of_ble_eq_true rfl⟩ dL_act_393 [⟨0, 419, 420, 88⟩] ⟨0, 419, 425, 91⟩ [⟨0, 419, 430, 94⟩] htb (fun z hz => Or.inr (by rw [List.mem_singleton.mp hz]; exact ⟨by decide, _, hT.use kx_L_88 args, hN.1⟩)) (by decide) (by decide) kx_L_91 q_cast_iae (fun q9 H locs hP hD hS => ?_)
  refine lv_astore (lv' := [(6, .ref q9), (0, .ref (ad 70)), (1, .int (nI 21)), (2, .int p0), (3, .int p1), (4, .int p2), (5, .int p3)]) hx hb dL_act_425 hl (by decide) rfl (fun ls hl => ?_)
  refine lv_ldc (v := -7000002) hx hb hown (hT.use kk_L_93 args) dL_act_427 ?_
  exact q_lret hx hb hr hlk rfl rfl hP hS (by decide) (by decide) dL_act_429
set_option maxRecDepth 100000 in
set_option maxHeartbeats 4000000 in
theorem ao_bestAnew (l : Launch) (D : va_G) (cA : ClassId) (ad : Nat → Nat) (g g2 : Nat → Nat → Int32) (z z2 : Nat → Nat) (p0 p1 p2 p3 : Int32) (rm : Room) (r : Int32) (hrm : rm.cells = 0 ∧ rm.slots = 0 ∧ rm.frames ≤ 8 ∧ rm.locals ≤ 139) (hM : q_CI l yX5_bestAnew [Cond.code yX5_bestAnew cX5_bestAnew 2 (some .int)] rm D cA (.ref (ad 70) :: [.int p0]) (rlW cA ad g z) r (rlW cA ad g2 z2)) : q_CL l yL_act [Cond.codeWith yL_act cL_act 7 (some .int) hh_act] rm_A D cA [.ref (ad 70), .int (nI 22), .int p0, .int p1, .int p2, .int p3] (rlW cA ad g z) r (fun w => w = rlW cA ad g2 z2) := by
  refine q_startA RL (by decide +kernel) rfl (Nat.le_of_ble_eq_true rfl) ?_
  intro p e s m below meth c A args H locs ls hx hb hr hml hown hT hlk hP hK hD hA hS hl htb hX hN hZ
  have hl : lv_has ls 7 [(0, .ref (ad 70)), (1, .int (nI 22)), (2, .int p0), (3, .int p1), (4, .int p2), (5, .int p3)] := hl
  refine ac_22 hx hb hl ?_
  refine lv_aload_n hx hb dL_act_405 rfl (lv_at hl 0 rfl) ?_
  refine lv_iload_n hx hb dL_act_406 rfl (lv_at hl 2 rfl) ?_
  refine q_callIW (As := [.int p0]) (r := r) (w1 := rlW cA ad g2 z2) hx hb hml hown hT hK hP hD hS hA  hM k_X5_bestAnew kl_L_82 (q0 := 0) rfl rfl rfl ((rlW_adr _ _ _ _).trans (rlW_adr _ _ _ _).symm) hl rfl rfl (Nat.le_of_ble_eq_true rfl) ⟨⟨hrm.1, hrm.2.1⟩, (by show rm.frames + 1 ≤ 9; omega), (by show 8 + (2 + 11) + rm.locals ≤ 180; omega)⟩ ⟨Nat.zero_le _, Nat.zero_le _⟩ dL_act_407 (fun H locs hP hD hS => ?_)
  refine lv_goto (tgt := 419) hx hb dL_act_410 (by decide) ?_
  exact q_lret hx hb hr hlk rfl rfl hP hS (by decide) (by decide) dL_act_419
set_option maxRecDepth 100000 in
set_option maxHeartbeats 4000000 in
theorem ax_bestAnew_iae (l : Launch) (D : va_G) (cA : ClassId) (ad : Nat → Nat) (g g2 : Nat → Nat → Int32) (z z2 : Nat → Nat) (p0 p1 p2 p3 : Int32) (rm : Room) (hrm : rm.cells = 1 ∧ rm.slots = 6 ∧ rm.frames ≤ 8 ∧ rm.locals ≤ 139) (hM : q_CX l yX5_bestAnew [Cond.code yX5_bestAnew cX5_bestAnew 2 (some .int)] rm D cA (.ref (ad 70) :: [.int p0]) (rlW cA ad g z) "java/lang/IllegalArgumentException" (rlW cA ad g2 z2)) : q_CL l yL_act [Cond.codeWith yL_act cL_act 7 (some .int) hh_act] rm_A D cA [.ref (ad 70), .int (nI 22), .int p0, .int p1, .int p2, .int p3] (rlW cA ad g z) (-7000002) (fun w => w = rlW cA ad g2 z2) := by
  refine q_startA RL (by decide +kernel) rfl (Nat.le_of_ble_eq_true rfl) ?_
  intro p e s m below meth c A args H locs ls hx hb hr hml hown hT hlk hP hK hD hA hS hl htb hX hN hZ
  have hl : lv_has ls 7 [(0, .ref (ad 70)), (1, .int (nI 22)), (2, .int p0), (3, .int p1), (4, .int p2), (5, .int p3)] := hl
  refine ac_22 hx hb hl ?_
  refine lv_aload_n hx hb dL_act_405 rfl (lv_at hl 0 rfl) ?_
  refine lv_iload_n hx hb dL_act_406 rfl (lv_at hl 2 rfl) ?_
  refine q_callXC (As := [.int p0]) (w1 := rlW cA ad g2 z2) (name := "java/lang/IllegalArgumentException") hx hb hml hown hT hK hP hD hS hA  hX hZ hM k_X5_bestAnew kl_L_82 (q0 := 0) rfl rfl rfl ((rlW_adr _ _ _ _).trans (rlW_adr _ _ _ _).symm) hl rfl rfl (Nat.le_of_ble_eq_true rfl) ⟨⟨hrm.1, hrm.2.1⟩, (by show rm.frames + 1 ≤ 9; omega), (by show 8 + (2 + 11) + rm.locals ≤ 180; omega)⟩ ⟨Nat.le_of_ble_eq_true rfl, Nat.le_of_ble_eq_true rfl⟩ dL_act_407 [⟨0, 419, 420, 88⟩] ⟨0, 419, 425, 91⟩ [⟨0, 419, 430, 94⟩] htb (fun z hz => Or.inr (by rw [List.mem_singleton.mp hz]; exact ⟨by decide, _, hT.use kx_L_88 args, hN.1⟩)) (by decide) (by decide) kx_L_91 q_cast_iae (fun q9 H locs hP hD hS => ?_)
  refine lv_astore (lv' := [(6, .ref q9), (0, .ref (ad 70)), (1, .int (nI 22)), (2, .int p0), (3, .int p1), (4, .int p2), (5, .int p3)]) hx hb dL_act_425 hl (by decide) rfl (fun ls hl => ?_)
  refine lv_ldc (v := -7000002) hx hb hown (hT.use kk_L_93 args) dL_act_427 ?_
  exact q_lret hx hb hr hlk rfl rfl hP hS (by decide) (by decide) dL_act_429
set_option maxRecDepth 100000 in
set_option maxHeartbeats 4000000 in
theorem ao_rival (l : Launch) (D : va_G) (cA : ClassId) (ad : Nat → Nat) (g g2 : Nat → Nat → Int32) (z z2 : Nat → Nat) (p0 p1 p2 p3 : Int32) (rm : Room) (r : Int32) (hrm : rm.cells = 0 ∧ rm.slots = 0 ∧ rm.frames ≤ 8 ∧ rm.locals ≤ 139) (hM : q_CI l yX5_rival [Cond.code yX5_rival cX5_rival 4 (some .int)] rm D cA (.ref (ad 70) :: [.int p0, .int p1]) (rlW cA ad g z) r (rlW cA ad g2 z2)) : q_CL l yL_act [Cond.codeWith yL_act cL_act 7 (some .int) hh_act] rm_A D cA [.ref (ad 70), .int (nI 23), .int p0, .int p1, .int p2, .int p3] (rlW cA ad g z) r (fun w => w = rlW cA ad g2 z2) := by
  refine q_startA RL (by decide +kernel) rfl (Nat.le_of_ble_eq_true rfl) ?_
  intro p e s m below meth c A args H locs ls hx hb hr hml hown hT hlk hP hK hD hA hS hl htb hX hN hZ
  have hl : lv_has ls 7 [(0, .ref (ad 70)), (1, .int (nI 23)), (2, .int p0), (3, .int p1), (4, .int p2), (5, .int p3)] := hl
  refine ac_23 hx hb hl ?_
  refine lv_aload_n hx hb dL_act_413 rfl (lv_at hl 0 rfl) ?_
  refine lv_iload_n hx hb dL_act_414 rfl (lv_at hl 2 rfl) ?_
  refine lv_iload_n hx hb dL_act_415 rfl (lv_at hl 3 rfl) ?_
  refine q_callIW (As := [.int p0, .int p1]) (r := r) (w1 := rlW cA ad g2 z2) hx hb hml hown hT hK hP hD hS hA  hM k_X5_rival kl_L_85 (q0 := 0) rfl rfl rfl ((rlW_adr _ _ _ _).trans (rlW_adr _ _ _ _).symm) hl rfl rfl (Nat.le_of_ble_eq_true rfl) ⟨⟨hrm.1, hrm.2.1⟩, (by show rm.frames + 1 ≤ 9; omega), (by show 8 + (4 + 11) + rm.locals ≤ 180; omega)⟩ ⟨Nat.zero_le _, Nat.zero_le _⟩ dL_act_416 (fun H locs hP hD hS => ?_)
  exact q_lret hx hb hr hlk rfl rfl hP hS (by decide) (by decide) dL_act_419
set_option maxRecDepth 100000 in
set_option maxHeartbeats 4000000 in
theorem ax_rival_iob (l : Launch) (D : va_G) (cA : ClassId) (ad : Nat → Nat) (g g2 : Nat → Nat → Int32) (z z2 : Nat → Nat) (p0 p1 p2 p3 : Int32) (rm : Room) (hrm : rm.cells = 1 ∧ rm.slots = 6 ∧ rm.frames ≤ 8 ∧ rm.locals ≤ 139) (hM : q_CX l yX5_rival [Cond.code yX5_rival cX5_rival 4 (some .int)] rm D cA (.ref (ad 70) :: [.int p0, .int p1]) (rlW cA ad g z) "java/lang/IndexOutOfBoundsException" (rlW cA ad g2 z2)) : q_CL l yL_act [Cond.codeWith yL_act cL_act 7 (some .int) hh_act] rm_A D cA [.ref (ad 70), .int (nI 23), .int p0, .int p1, .int p2, .int p3] (rlW cA ad g z) (-7000001) (fun w => w = rlW cA ad g2 z2) := by
  refine q_startA RL (by decide +kernel) rfl (Nat.le_of_ble_eq_true rfl) ?_
  intro p e s m below meth c A args H locs ls hx hb hr hml hown hT hlk hP hK hD hA hS hl htb hX hN hZ
  have hl : lv_has ls 7 [(0, .ref (ad 70)), (1, .int (nI 23)), (2, .int p0), (3, .int p1), (4, .int p2), (5, .int p3)] := hl
  refine ac_23 hx hb hl ?_
  refine lv_aload_n hx hb dL_act_413 rfl (lv_at hl 0 rfl) ?_
  refine lv_iload_n hx hb dL_act_414 rfl (lv_at hl 2 rfl) ?_
  refine lv_iload_n hx hb dL_act_415 rfl (lv_at hl 3 rfl) ?_
  refine q_callXC (As := [.int p0, .int p1]) (w1 := rlW cA ad g2 z2) (name := "java/lang/IndexOutOfBoundsException") hx hb hml hown hT hK hP hD hS hA  hX hZ hM k_X5_rival kl_L_85 (q0 := 0) rfl rfl rfl ((rlW_adr _ _ _ _).trans (rlW_adr _ _ _ _).symm) hl rfl rfl (Nat.le_of_ble_eq_true rfl) ⟨⟨hrm.1, hrm.2.1⟩, (by show rm.frames + 1 ≤ 9; omega), (by show 8 + (4 + 11) + rm.locals ≤ 180; omega)⟩ ⟨Nat.le_of_ble_eq_true rfl, Nat.le_of_ble_eq_true rfl⟩ dL_act_416 [] ⟨0, 419, 420, 88⟩ [⟨0, 419, 425, 91⟩, ⟨0, 419, 430, 94⟩] htb (fun z hz => absurd hz List.not_mem_nil) (by decide) (by decide) kx_L_88 q_cast_iob (fun q9 H locs hP hD hS => ?_)
  refine lv_astore (lv' := [(6, .ref q9), (0, .ref (ad 70)), (1, .int (nI 23)), (2, .int p0), (3, .int p1), (4, .int p2), (5, .int p3)]) hx hb dL_act_420 hl (by decide) rfl (fun ls hl => ?_)
  refine lv_ldc (v := -7000001) hx hb hown (hT.use kk_L_90 args) dL_act_422 ?_
  exact q_lret hx hb hr hlk rfl rfl hP hS (by decide) (by decide) dL_act_424
set_option maxRecDepth 100000 in
set_option maxHeartbeats 4000000 in
theorem ax_rival_iae (l : Launch) (D : va_G) (cA : ClassId) (ad : Nat → Nat) (g g2 : Nat → Nat → Int32) (z z2 : Nat → Nat) (p0 p1 p2 p3 : Int32) (rm : Room) (hrm : rm.cells = 1 ∧ rm.slots = 6 ∧ rm.frames ≤ 8 ∧ rm.locals ≤ 139) (hM : q_CX l yX5_rival [Cond.code yX5_rival cX5_rival 4 (some .int)] rm D cA (.ref (ad 70) :: [.int p0, .int p1]) (rlW cA ad g z) "java/lang/IllegalArgumentException" (rlW cA ad g2 z2)) : q_CL l yL_act [Cond.codeWith yL_act cL_act 7 (some .int) hh_act] rm_A D cA [.ref (ad 70), .int (nI 23), .int p0, .int p1, .int p2, .int p3] (rlW cA ad g z) (-7000002) (fun w => w = rlW cA ad g2 z2) := by
  refine q_startA RL (by decide +kernel) rfl (Nat.le_of_ble_eq_true rfl) ?_
  intro p e s m below meth c A args H locs ls hx hb hr hml hown hT hlk hP hK hD hA hS hl htb hX hN hZ
  have hl : lv_has ls 7 [(0, .ref (ad 70)), (1, .int (nI 23)), (2, .int p0), (3, .int p1), (4, .int p2), (5, .int p3)] := hl
  refine ac_23 hx hb hl ?_
  refine lv_aload_n hx hb dL_act_413 rfl (lv_at hl 0 rfl) ?_
  refine lv_iload_n hx hb dL_act_414 rfl (lv_at hl 2 rfl) ?_
  refine lv_iload_n hx hb dL_act_415 rfl (lv_at hl 3 rfl) ?_
  refine q_callXC (As := [.int p0, .int p1]) (w1 := rlW cA ad g2 z2) (name := "java/lang/IllegalArgumentException") hx hb hml hown hT hK hP hD hS hA  hX hZ hM k_X5_rival kl_L_85 (q0 := 0) rfl rfl rfl ((rlW_adr _ _ _ _).trans (rlW_adr _ _ _ _).symm) hl rfl rfl (Nat.le_of_ble_eq_true rfl) ⟨⟨hrm.1, hrm.2.1⟩, (by show rm.frames + 1 ≤ 9; omega), (by show 8 + (4 + 11) + rm.locals ≤ 180; omega)⟩ ⟨Nat.le_of_ble_eq_true rfl, Nat.le_of_ble_eq_true rfl⟩ dL_act_416 [⟨0, 419, 420, 88⟩] ⟨0, 419, 425, 91⟩ [⟨0, 419, 430, 94⟩] htb (fun z hz => Or.inr (by rw [List.mem_singleton.mp hz]; exact ⟨by decide, _, hT.use kx_L_88 args, hN.1⟩)) (by decide) (by decide) kx_L_91 q_cast_iae (fun q9 H locs hP hD hS => ?_)
  refine lv_astore (lv' := [(6, .ref q9), (0, .ref (ad 70)), (1, .int (nI 23)), (2, .int p0), (3, .int p1), (4, .int p2), (5, .int p3)]) hx hb dL_act_425 hl (by decide) rfl (fun ls hl => ?_)
  refine lv_ldc (v := -7000002) hx hb hown (hT.use kk_L_93 args) dL_act_427 ?_
  exact q_lret hx hb hr hlk rfl rfl hP hS (by decide) (by decide) dL_act_429
