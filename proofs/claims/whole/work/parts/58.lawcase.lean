set_option maxHeartbeats 4000000 in
set_option maxRecDepth 100000 in
theorem lw_c_mention {p : Program} {l : Launch} {e : Env} {s : State} {m : MethodId} {below : List Frame} {meth : Method} {c : Code} {b L : Nat} {xs : Nat → Int32} {D : va_G} {cA cL : ClassId} {ad ad' : Nat → Nat} {o i cells slots : Nat} {Q : State → Prop} {H : Heap} {locs : List Loc} {ls : Array Slot} {f : Nat → Int64} {g g' : Nat → Nat → Int32} {z z' : Nat → Nat} (C : lw_C p l s m meth c b L xs D cA cL) (hi : i + 4 < L) (hroom : cells + 1 ≤ 606944 ∧ slots + 6 ≤ 7275272) (hR : rRel g z g' z') (hP : va_P D vwCl (lwW cA cL ad ad' o f g z g' z') H) (hD : va_D (lwA s) (lwW cA cL ad ad' o f g z g' z')) (hS : va_S (lwA s) s.heap H locs) (hl : lv_has ls 7 [(0, .ref b), (1, .ref (ad 70)), (2, .ref (ad' 80)), (3, .ref o), (4, .int (nI i))]) (kk : lw_N p l e s m below meth c b D cA cL ad ad' o i cells slots Q) : W p l e room_1 s m #[Value.ref b] below meth c H locs cells slots Q (F0 m 152 ls []) := by
  obtain ⟨k, r, f2, g2, z2, g3, z3, rm, hk, hw, hrm, hm, h4, hf0, hb0, hR2⟩ := st_mention l C.htr D cA cL ad ad' o f g z g' z' hR (xs (i + 1)) (xs (i + 2)) (xs (i + 3)) (xs (i + 4))
  refine lv_aload_n C.hx C.hb dL_law_152 rfl (lv_at hl 1 rfl) ?_
  refine q_scr C 1 hi (by omega) hS hl dL_law_153 dL_law_154 dL_law_156 dL_law_157 dL_law_158 ?_
  refine q_scr C 2 hi (by omega) hS hl dL_law_159 dL_law_160 dL_law_162 dL_law_163 dL_law_164 ?_
  refine q_scr C 3 hi (by omega) hS hl dL_law_165 dL_law_166 dL_law_168 dL_law_169 dL_law_170 ?_
  refine q_scr C 4 hi (by omega) hS hl dL_law_171 dL_law_172 dL_law_174 dL_law_175 dL_law_176 ?_
  refine lv_aload_n C.hx C.hb dL_law_177 rfl (lv_at hl 3 rfl) ?_
  refine q_callL (rest := []) (As := [.ref (ad 70), .int (xs (i + 1)), .int (xs (i + 2)), .int (xs (i + 3)), .int (xs (i + 4)), .ref o]) (ws1 := lwW cA cL ad ad' o f2 g2 z2 g' z') C hP hD hS hw k_L_mention kl_L_98 [] (mdW cA ad' g' z') rfl rfl (congrArg (List.cons o) ((rlW_adr _ _ _ _).trans (rlW_adr _ _ _ _).symm)) hl rfl rfl (Nat.zero_le _) ⟨Nat.le_of_ble_eq_true rfl, Nat.le_of_ble_eq_true rfl⟩ hroom dL_law_178 (fun H locs hP hD hS => ?_)
  refine lv_istore (lv' := [(5, .int (nI k)), (0, .ref b), (1, .ref (ad 70)), (2, .ref (ad' 80)), (3, .ref o), (4, .int (nI i))]) C.hx C.hb dL_law_181 hl (by decide) rfl (fun ls hl => ?_)
  have hl : lv_has ls 7 [(0, .ref b), (1, .ref (ad 70)), (2, .ref (ad' 80)), (3, .ref o), (4, .int (nI i)), (5, .int (nI k))] := lv_sub hl [1, 2, 3, 4, 5, 0] rfl
  refine lv_aload_n C.hx C.hb dL_law_183 rfl (lv_at hl 2 rfl) ?_
  refine q_scr C 1 hi (by omega) hS hl dL_law_184 dL_law_185 dL_law_187 dL_law_188 dL_law_189 ?_
  refine q_scr C 2 hi (by omega) hS hl dL_law_190 dL_law_191 dL_law_193 dL_law_194 dL_law_195 ?_
  refine q_scr C 3 hi (by omega) hS hl dL_law_196 dL_law_197 dL_law_199 dL_law_200 dL_law_201 ?_
  refine q_scr C 4 hi (by omega) hS hl dL_law_202 dL_law_203 dL_law_205 dL_law_206 dL_law_207 ?_
  refine q_callM (rest := []) (As := [.int (xs (i + 1)), .int (xs (i + 2)), .int (xs (i + 3)), .int (xs (i + 4))]) C hP hD hS hm k_X6_mention kl_L_103 rfl hl rfl rfl (Nat.zero_le _) ⟨⟨hrm.1, hrm.2.1⟩, (by show rm.frames + 1 ≤ 12; omega), (by show 8 + (6 + 11) + rm.locals ≤ 434; omega)⟩ hroom dL_law_208 (fun H locs hP hD hS => ?_)
  refine lv_istore (lv' := [(6, .int r), (0, .ref b), (1, .ref (ad 70)), (2, .ref (ad' 80)), (3, .ref o), (4, .int (nI i)), (5, .int (nI k))]) C.hx C.hb dL_law_211 hl (by decide) rfl (fun ls hl => ?_)
  have hl : lv_has ls 7 [(0, .ref b), (1, .ref (ad 70)), (2, .ref (ad' 80)), (3, .ref o), (4, .int (nI i)), (5, .int (nI k)), (6, .int r)] := lv_sub hl [1, 2, 3, 4, 5, 6, 0] rfl
  refine q_tail C h4 hk hf0 hP hD hS hl ⟨Nat.le_of_ble_eq_true rfl, Nat.le_of_ble_eq_true rfl⟩ hroom dL_law_213 dL_law_214 dL_law_217 dL_law_219 dL_law_224 dL_law_226 dL_law_229 dL_law_230 dL_law_231 dL_law_232 dL_law_234 dL_law_235 dL_law_236 (fun H locs hP hD hS => ?_)
  refine lv_goto (tgt := 1889) C.hx C.hb dL_law_241 (by decide) ?_
  exact kk f2 g2 z2 g3 z3 H locs ls hR2 hP hD hS (lv_sub hl [0, 1, 2, 3, 4] rfl)
set_option maxHeartbeats 4000000 in
set_option maxRecDepth 100000 in
theorem lw_c_rank {p : Program} {l : Launch} {e : Env} {s : State} {m : MethodId} {below : List Frame} {meth : Method} {c : Code} {b L : Nat} {xs : Nat → Int32} {D : va_G} {cA cL : ClassId} {ad ad' : Nat → Nat} {o i cells slots : Nat} {Q : State → Prop} {H : Heap} {locs : List Loc} {ls : Array Slot} {f : Nat → Int64} {g g' : Nat → Nat → Int32} {z z' : Nat → Nat} (C : lw_C p l s m meth c b L xs D cA cL) (hi : i + 4 < L) (hroom : cells + 1 ≤ 606944 ∧ slots + 6 ≤ 7275272) (hR : rRel g z g' z') (hP : va_P D vwCl (lwW cA cL ad ad' o f g z g' z') H) (hD : va_D (lwA s) (lwW cA cL ad ad' o f g z g' z')) (hS : va_S (lwA s) s.heap H locs) (hl : lv_has ls 7 [(0, .ref b), (1, .ref (ad 70)), (2, .ref (ad' 80)), (3, .ref o), (4, .int (nI i))]) (kk : lw_N p l e s m below meth c b D cA cL ad ad' o i cells slots Q) : W p l e room_1 s m #[Value.ref b] below meth c H locs cells slots Q (F0 m 244 ls []) := by
  obtain ⟨k, r, f2, g2, z2, g3, z3, rm, hk, hw, hrm, hm, h4, hf0, hb0, hR2⟩ := st_rank l C.htr D cA cL ad ad' o f g z g' z' hR (xs (i + 1)) (xs (i + 2))
  refine lv_aload_n C.hx C.hb dL_law_244 rfl (lv_at hl 1 rfl) ?_
  refine q_scr C 1 hi (by omega) hS hl dL_law_245 dL_law_246 dL_law_248 dL_law_249 dL_law_250 ?_
  refine q_scr C 2 hi (by omega) hS hl dL_law_251 dL_law_252 dL_law_254 dL_law_255 dL_law_256 ?_
  refine lv_aload_n C.hx C.hb dL_law_257 rfl (lv_at hl 3 rfl) ?_
  refine q_callL (rest := []) (As := [.ref (ad 70), .int (xs (i + 1)), .int (xs (i + 2)), .ref o]) (ws1 := lwW cA cL ad ad' o f2 g2 z2 g' z') C hP hD hS hw k_L_rank kl_L_108 [] (mdW cA ad' g' z') rfl rfl (congrArg (List.cons o) ((rlW_adr _ _ _ _).trans (rlW_adr _ _ _ _).symm)) hl rfl rfl (Nat.zero_le _) ⟨Nat.le_of_ble_eq_true rfl, Nat.le_of_ble_eq_true rfl⟩ hroom dL_law_258 (fun H locs hP hD hS => ?_)
  refine lv_istore (lv' := [(5, .int (nI k)), (0, .ref b), (1, .ref (ad 70)), (2, .ref (ad' 80)), (3, .ref o), (4, .int (nI i))]) C.hx C.hb dL_law_261 hl (by decide) rfl (fun ls hl => ?_)
  have hl : lv_has ls 7 [(0, .ref b), (1, .ref (ad 70)), (2, .ref (ad' 80)), (3, .ref o), (4, .int (nI i)), (5, .int (nI k))] := lv_sub hl [1, 2, 3, 4, 5, 0] rfl
  refine lv_aload_n C.hx C.hb dL_law_263 rfl (lv_at hl 2 rfl) ?_
  refine q_scr C 1 hi (by omega) hS hl dL_law_264 dL_law_265 dL_law_267 dL_law_268 dL_law_269 ?_
  refine q_scr C 2 hi (by omega) hS hl dL_law_270 dL_law_271 dL_law_273 dL_law_274 dL_law_275 ?_
  refine q_callM (rest := []) (As := [.int (xs (i + 1)), .int (xs (i + 2))]) C hP hD hS hm k_X6_rank kl_L_111 rfl hl rfl rfl (Nat.zero_le _) ⟨⟨hrm.1, hrm.2.1⟩, (by show rm.frames + 1 ≤ 12; omega), (by show 8 + (4 + 11) + rm.locals ≤ 434; omega)⟩ hroom dL_law_276 (fun H locs hP hD hS => ?_)
  refine lv_istore (lv' := [(6, .int r), (0, .ref b), (1, .ref (ad 70)), (2, .ref (ad' 80)), (3, .ref o), (4, .int (nI i)), (5, .int (nI k))]) C.hx C.hb dL_law_279 hl (by decide) rfl (fun ls hl => ?_)
  have hl : lv_has ls 7 [(0, .ref b), (1, .ref (ad 70)), (2, .ref (ad' 80)), (3, .ref o), (4, .int (nI i)), (5, .int (nI k)), (6, .int r)] := lv_sub hl [1, 2, 3, 4, 5, 6, 0] rfl
  refine q_tail C h4 hk hf0 hP hD hS hl ⟨Nat.le_of_ble_eq_true rfl, Nat.le_of_ble_eq_true rfl⟩ hroom dL_law_281 dL_law_282 dL_law_285 dL_law_287 dL_law_292 dL_law_294 dL_law_297 dL_law_298 dL_law_299 dL_law_300 dL_law_302 dL_law_303 dL_law_304 (fun H locs hP hD hS => ?_)
  refine lv_goto (tgt := 1889) C.hx C.hb dL_law_309 (by decide) ?_
  exact kk f2 g2 z2 g3 z3 H locs ls hR2 hP hD hS (lv_sub hl [0, 1, 2, 3, 4] rfl)
set_option maxHeartbeats 4000000 in
set_option maxRecDepth 100000 in
theorem lw_c_bar {p : Program} {l : Launch} {e : Env} {s : State} {m : MethodId} {below : List Frame} {meth : Method} {c : Code} {b L : Nat} {xs : Nat → Int32} {D : va_G} {cA cL : ClassId} {ad ad' : Nat → Nat} {o i cells slots : Nat} {Q : State → Prop} {H : Heap} {locs : List Loc} {ls : Array Slot} {f : Nat → Int64} {g g' : Nat → Nat → Int32} {z z' : Nat → Nat} (C : lw_C p l s m meth c b L xs D cA cL) (hi : i + 4 < L) (hroom : cells + 1 ≤ 606944 ∧ slots + 6 ≤ 7275272) (hR : rRel g z g' z') (hP : va_P D vwCl (lwW cA cL ad ad' o f g z g' z') H) (hD : va_D (lwA s) (lwW cA cL ad ad' o f g z g' z')) (hS : va_S (lwA s) s.heap H locs) (hl : lv_has ls 7 [(0, .ref b), (1, .ref (ad 70)), (2, .ref (ad' 80)), (3, .ref o), (4, .int (nI i))]) (kk : lw_N p l e s m below meth c b D cA cL ad ad' o i cells slots Q) : W p l e room_1 s m #[Value.ref b] below meth c H locs cells slots Q (F0 m 312 ls []) := by
  obtain ⟨k, r, f2, g2, z2, g3, z3, rm, hk, hw, hrm, hm, h4, hf0, hb0, hR2⟩ := st_bar l C.htr D cA cL ad ad' o f g z g' z' hR (xs (i + 1)) (xs (i + 2)) (!decide (xs (i + 3) = 0))
  refine lv_aload_n C.hx C.hb dL_law_312 rfl (lv_at hl 1 rfl) ?_
  refine q_scr C 1 hi (by omega) hS hl dL_law_313 dL_law_314 dL_law_316 dL_law_317 dL_law_318 ?_
  refine q_scr C 2 hi (by omega) hS hl dL_law_319 dL_law_320 dL_law_322 dL_law_323 dL_law_324 ?_
  refine q_scr C 3 hi (by omega) hS hl dL_law_325 dL_law_326 dL_law_328 dL_law_329 dL_law_330 ?_
  refine q_bool C dL_law_331 dL_law_334 dL_law_335 dL_law_338 ?_
  refine lv_aload_n C.hx C.hb dL_law_339 rfl (lv_at hl 3 rfl) ?_
  refine q_callL (rest := []) (As := [.ref (ad 70), .int (xs (i + 1)), .int (xs (i + 2)), .int (q_b (!decide (xs (i + 3) = 0))), .ref o]) (ws1 := lwW cA cL ad ad' o f2 g2 z2 g' z') C hP hD hS hw k_L_bar kl_L_112 [] (mdW cA ad' g' z') rfl rfl (congrArg (List.cons o) ((rlW_adr _ _ _ _).trans (rlW_adr _ _ _ _).symm)) hl rfl rfl (Nat.zero_le _) ⟨Nat.le_of_ble_eq_true rfl, Nat.le_of_ble_eq_true rfl⟩ hroom dL_law_340 (fun H locs hP hD hS => ?_)
  refine lv_istore (lv' := [(5, .int (nI k)), (0, .ref b), (1, .ref (ad 70)), (2, .ref (ad' 80)), (3, .ref o), (4, .int (nI i))]) C.hx C.hb dL_law_343 hl (by decide) rfl (fun ls hl => ?_)
  have hl : lv_has ls 7 [(0, .ref b), (1, .ref (ad 70)), (2, .ref (ad' 80)), (3, .ref o), (4, .int (nI i)), (5, .int (nI k))] := lv_sub hl [1, 2, 3, 4, 5, 0] rfl
  refine lv_aload_n C.hx C.hb dL_law_345 rfl (lv_at hl 2 rfl) ?_
  refine q_scr C 1 hi (by omega) hS hl dL_law_346 dL_law_347 dL_law_349 dL_law_350 dL_law_351 ?_
  refine q_scr C 2 hi (by omega) hS hl dL_law_352 dL_law_353 dL_law_355 dL_law_356 dL_law_357 ?_
  refine q_scr C 3 hi (by omega) hS hl dL_law_358 dL_law_359 dL_law_361 dL_law_362 dL_law_363 ?_
  refine q_bool C dL_law_364 dL_law_367 dL_law_368 dL_law_371 ?_
  refine q_callM (rest := []) (As := [.int (xs (i + 1)), .int (xs (i + 2)), .int (q_b (!decide (xs (i + 3) = 0)))]) C hP hD hS hm k_X6_bar kl_L_115 rfl hl rfl rfl (Nat.zero_le _) ⟨⟨hrm.1, hrm.2.1⟩, (by show rm.frames + 1 ≤ 12; omega), (by show 8 + (5 + 11) + rm.locals ≤ 434; omega)⟩ hroom dL_law_372 (fun H locs hP hD hS => ?_)
  refine lv_istore (lv' := [(6, .int r), (0, .ref b), (1, .ref (ad 70)), (2, .ref (ad' 80)), (3, .ref o), (4, .int (nI i)), (5, .int (nI k))]) C.hx C.hb dL_law_375 hl (by decide) rfl (fun ls hl => ?_)
  have hl : lv_has ls 7 [(0, .ref b), (1, .ref (ad 70)), (2, .ref (ad' 80)), (3, .ref o), (4, .int (nI i)), (5, .int (nI k)), (6, .int r)] := lv_sub hl [1, 2, 3, 4, 5, 6, 0] rfl
  refine q_tailb C h4 hk hf0 (hb0 rfl) hP hD hS hl ⟨Nat.le_of_ble_eq_true rfl, Nat.le_of_ble_eq_true rfl⟩ hroom dL_law_377 dL_law_378 dL_law_381 dL_law_383 dL_law_388 dL_law_390 dL_law_393 dL_law_394 dL_law_395 dL_law_396 dL_law_398 dL_law_401 dL_law_402 dL_law_405 dL_law_406 dL_law_407 (fun H locs hP hD hS => ?_)
  refine lv_goto (tgt := 1889) C.hx C.hb dL_law_412 (by decide) ?_
  exact kk f2 g2 z2 g3 z3 H locs ls hR2 hP hD hS (lv_sub hl [0, 1, 2, 3, 4] rfl)
set_option maxHeartbeats 4000000 in
set_option maxRecDepth 100000 in
theorem lw_c_ahead {p : Program} {l : Launch} {e : Env} {s : State} {m : MethodId} {below : List Frame} {meth : Method} {c : Code} {b L : Nat} {xs : Nat → Int32} {D : va_G} {cA cL : ClassId} {ad ad' : Nat → Nat} {o i cells slots : Nat} {Q : State → Prop} {H : Heap} {locs : List Loc} {ls : Array Slot} {f : Nat → Int64} {g g' : Nat → Nat → Int32} {z z' : Nat → Nat} (C : lw_C p l s m meth c b L xs D cA cL) (hi : i + 4 < L) (hroom : cells + 1 ≤ 606944 ∧ slots + 6 ≤ 7275272) (hR : rRel g z g' z') (hP : va_P D vwCl (lwW cA cL ad ad' o f g z g' z') H) (hD : va_D (lwA s) (lwW cA cL ad ad' o f g z g' z')) (hS : va_S (lwA s) s.heap H locs) (hl : lv_has ls 7 [(0, .ref b), (1, .ref (ad 70)), (2, .ref (ad' 80)), (3, .ref o), (4, .int (nI i))]) (kk : lw_N p l e s m below meth c b D cA cL ad ad' o i cells slots Q) : W p l e room_1 s m #[Value.ref b] below meth c H locs cells slots Q (F0 m 415 ls []) := by
  obtain ⟨k, r, f2, g2, z2, g3, z3, rm, hk, hw, hrm, hm, h4, hf0, hb0, hR2⟩ := st_ahead l C.htr D cA cL ad ad' o f g z g' z' hR (xs (i + 1)) (xs (i + 2)) (xs (i + 3))
  refine lv_aload_n C.hx C.hb dL_law_415 rfl (lv_at hl 1 rfl) ?_
  refine q_scr C 1 hi (by omega) hS hl dL_law_416 dL_law_417 dL_law_419 dL_law_420 dL_law_421 ?_
  refine q_scr C 2 hi (by omega) hS hl dL_law_422 dL_law_423 dL_law_425 dL_law_426 dL_law_427 ?_
  refine q_scr C 3 hi (by omega) hS hl dL_law_428 dL_law_429 dL_law_431 dL_law_432 dL_law_433 ?_
  refine lv_aload_n C.hx C.hb dL_law_434 rfl (lv_at hl 3 rfl) ?_
  refine q_callL (rest := []) (As := [.ref (ad 70), .int (xs (i + 1)), .int (xs (i + 2)), .int (xs (i + 3)), .ref o]) (ws1 := lwW cA cL ad ad' o f2 g2 z2 g' z') C hP hD hS hw k_L_ahead kl_L_116 [] (mdW cA ad' g' z') rfl rfl (congrArg (List.cons o) ((rlW_adr _ _ _ _).trans (rlW_adr _ _ _ _).symm)) hl rfl rfl (Nat.zero_le _) ⟨Nat.le_of_ble_eq_true rfl, Nat.le_of_ble_eq_true rfl⟩ hroom dL_law_435 (fun H locs hP hD hS => ?_)
  refine lv_istore (lv' := [(5, .int (nI k)), (0, .ref b), (1, .ref (ad 70)), (2, .ref (ad' 80)), (3, .ref o), (4, .int (nI i))]) C.hx C.hb dL_law_438 hl (by decide) rfl (fun ls hl => ?_)
  have hl : lv_has ls 7 [(0, .ref b), (1, .ref (ad 70)), (2, .ref (ad' 80)), (3, .ref o), (4, .int (nI i)), (5, .int (nI k))] := lv_sub hl [1, 2, 3, 4, 5, 0] rfl
  refine lv_aload_n C.hx C.hb dL_law_440 rfl (lv_at hl 2 rfl) ?_
  refine q_scr C 1 hi (by omega) hS hl dL_law_441 dL_law_442 dL_law_444 dL_law_445 dL_law_446 ?_
  refine q_scr C 2 hi (by omega) hS hl dL_law_447 dL_law_448 dL_law_450 dL_law_451 dL_law_452 ?_
  refine q_scr C 3 hi (by omega) hS hl dL_law_453 dL_law_454 dL_law_456 dL_law_457 dL_law_458 ?_
  refine q_callM (rest := []) (As := [.int (xs (i + 1)), .int (xs (i + 2)), .int (xs (i + 3))]) C hP hD hS hm k_X6_ahead kl_L_119 rfl hl rfl rfl (Nat.zero_le _) ⟨⟨hrm.1, hrm.2.1⟩, (by show rm.frames + 1 ≤ 12; omega), (by show 8 + (5 + 11) + rm.locals ≤ 434; omega)⟩ hroom dL_law_459 (fun H locs hP hD hS => ?_)
  refine lv_istore (lv' := [(6, .int r), (0, .ref b), (1, .ref (ad 70)), (2, .ref (ad' 80)), (3, .ref o), (4, .int (nI i)), (5, .int (nI k))]) C.hx C.hb dL_law_462 hl (by decide) rfl (fun ls hl => ?_)
  have hl : lv_has ls 7 [(0, .ref b), (1, .ref (ad 70)), (2, .ref (ad' 80)), (3, .ref o), (4, .int (nI i)), (5, .int (nI k)), (6, .int r)] := lv_sub hl [1, 2, 3, 4, 5, 6, 0] rfl
  refine q_tail C h4 hk hf0 hP hD hS hl ⟨Nat.le_of_ble_eq_true rfl, Nat.le_of_ble_eq_true rfl⟩ hroom dL_law_464 dL_law_465 dL_law_468 dL_law_470 dL_law_475 dL_law_477 dL_law_480 dL_law_481 dL_law_482 dL_law_483 dL_law_485 dL_law_486 dL_law_487 (fun H locs hP hD hS => ?_)
  refine lv_goto (tgt := 1889) C.hx C.hb dL_law_492 (by decide) ?_
  exact kk f2 g2 z2 g3 z3 H locs ls hR2 hP hD hS (lv_sub hl [0, 1, 2, 3, 4] rfl)
set_option maxHeartbeats 4000000 in
set_option maxRecDepth 100000 in
theorem lw_c_find {p : Program} {l : Launch} {e : Env} {s : State} {m : MethodId} {below : List Frame} {meth : Method} {c : Code} {b L : Nat} {xs : Nat → Int32} {D : va_G} {cA cL : ClassId} {ad ad' : Nat → Nat} {o i cells slots : Nat} {Q : State → Prop} {H : Heap} {locs : List Loc} {ls : Array Slot} {f : Nat → Int64} {g g' : Nat → Nat → Int32} {z z' : Nat → Nat} (C : lw_C p l s m meth c b L xs D cA cL) (hi : i + 4 < L) (hroom : cells + 1 ≤ 606944 ∧ slots + 6 ≤ 7275272) (hR : rRel g z g' z') (hP : va_P D vwCl (lwW cA cL ad ad' o f g z g' z') H) (hD : va_D (lwA s) (lwW cA cL ad ad' o f g z g' z')) (hS : va_S (lwA s) s.heap H locs) (hl : lv_has ls 7 [(0, .ref b), (1, .ref (ad 70)), (2, .ref (ad' 80)), (3, .ref o), (4, .int (nI i))]) (kk : lw_N p l e s m below meth c b D cA cL ad ad' o i cells slots Q) : W p l e room_1 s m #[Value.ref b] below meth c H locs cells slots Q (F0 m 495 ls []) := by
  obtain ⟨k, r, f2, g2, z2, g3, z3, rm, hk, hw, hrm, hm, h4, hf0, hb0, hR2⟩ := st_find l C.htr D cA cL ad ad' o f g z g' z' hR (xs (i + 1)) (xs (i + 2)) (xs (i + 3))
  refine lv_aload_n C.hx C.hb dL_law_495 rfl (lv_at hl 1 rfl) ?_
  refine q_scr C 1 hi (by omega) hS hl dL_law_496 dL_law_497 dL_law_499 dL_law_500 dL_law_501 ?_
  refine q_scr C 2 hi (by omega) hS hl dL_law_502 dL_law_503 dL_law_505 dL_law_506 dL_law_507 ?_
  refine q_scr C 3 hi (by omega) hS hl dL_law_508 dL_law_509 dL_law_511 dL_law_512 dL_law_513 ?_
  refine lv_aload_n C.hx C.hb dL_law_514 rfl (lv_at hl 3 rfl) ?_
  refine q_callL (rest := []) (As := [.ref (ad 70), .int (xs (i + 1)), .int (xs (i + 2)), .int (xs (i + 3)), .ref o]) (ws1 := lwW cA cL ad ad' o f2 g2 z2 g' z') C hP hD hS hw k_L_find kl_L_120 [] (mdW cA ad' g' z') rfl rfl (congrArg (List.cons o) ((rlW_adr _ _ _ _).trans (rlW_adr _ _ _ _).symm)) hl rfl rfl (Nat.zero_le _) ⟨Nat.le_of_ble_eq_true rfl, Nat.le_of_ble_eq_true rfl⟩ hroom dL_law_515 (fun H locs hP hD hS => ?_)
  refine lv_istore (lv' := [(5, .int (nI k)), (0, .ref b), (1, .ref (ad 70)), (2, .ref (ad' 80)), (3, .ref o), (4, .int (nI i))]) C.hx C.hb dL_law_518 hl (by decide) rfl (fun ls hl => ?_)
  have hl : lv_has ls 7 [(0, .ref b), (1, .ref (ad 70)), (2, .ref (ad' 80)), (3, .ref o), (4, .int (nI i)), (5, .int (nI k))] := lv_sub hl [1, 2, 3, 4, 5, 0] rfl
  refine lv_aload_n C.hx C.hb dL_law_520 rfl (lv_at hl 2 rfl) ?_
  refine q_scr C 1 hi (by omega) hS hl dL_law_521 dL_law_522 dL_law_524 dL_law_525 dL_law_526 ?_
  refine q_scr C 2 hi (by omega) hS hl dL_law_527 dL_law_528 dL_law_530 dL_law_531 dL_law_532 ?_
  refine q_scr C 3 hi (by omega) hS hl dL_law_533 dL_law_534 dL_law_536 dL_law_537 dL_law_538 ?_
  refine q_callM (rest := []) (As := [.int (xs (i + 1)), .int (xs (i + 2)), .int (xs (i + 3))]) C hP hD hS hm k_X6_find kl_L_122 rfl hl rfl rfl (Nat.zero_le _) ⟨⟨hrm.1, hrm.2.1⟩, (by show rm.frames + 1 ≤ 12; omega), (by show 8 + (5 + 11) + rm.locals ≤ 434; omega)⟩ hroom dL_law_539 (fun H locs hP hD hS => ?_)
  refine lv_istore (lv' := [(6, .int r), (0, .ref b), (1, .ref (ad 70)), (2, .ref (ad' 80)), (3, .ref o), (4, .int (nI i)), (5, .int (nI k))]) C.hx C.hb dL_law_542 hl (by decide) rfl (fun ls hl => ?_)
  have hl : lv_has ls 7 [(0, .ref b), (1, .ref (ad 70)), (2, .ref (ad' 80)), (3, .ref o), (4, .int (nI i)), (5, .int (nI k)), (6, .int r)] := lv_sub hl [1, 2, 3, 4, 5, 6, 0] rfl
  refine q_tail C h4 hk hf0 hP hD hS hl ⟨Nat.le_of_ble_eq_true rfl, Nat.le_of_ble_eq_true rfl⟩ hroom dL_law_544 dL_law_545 dL_law_548 dL_law_550 dL_law_555 dL_law_557 dL_law_560 dL_law_561 dL_law_562 dL_law_563 dL_law_565 dL_law_566 dL_law_567 (fun H locs hP hD hS => ?_)
  refine lv_goto (tgt := 1889) C.hx C.hb dL_law_572 (by decide) ?_
  exact kk f2 g2 z2 g3 z3 H locs ls hR2 hP hD hS (lv_sub hl [0, 1, 2, 3, 4] rfl)
set_option maxHeartbeats 4000000 in
set_option maxRecDepth 100000 in
theorem lw_c_wouldMove {p : Program} {l : Launch} {e : Env} {s : State} {m : MethodId} {below : List Frame} {meth : Method} {c : Code} {b L : Nat} {xs : Nat → Int32} {D : va_G} {cA cL : ClassId} {ad ad' : Nat → Nat} {o i cells slots : Nat} {Q : State → Prop} {H : Heap} {locs : List Loc} {ls : Array Slot} {f : Nat → Int64} {g g' : Nat → Nat → Int32} {z z' : Nat → Nat} (C : lw_C p l s m meth c b L xs D cA cL) (hi : i + 4 < L) (hroom : cells + 1 ≤ 606944 ∧ slots + 6 ≤ 7275272) (hR : rRel g z g' z') (hP : va_P D vwCl (lwW cA cL ad ad' o f g z g' z') H) (hD : va_D (lwA s) (lwW cA cL ad ad' o f g z g' z')) (hS : va_S (lwA s) s.heap H locs) (hl : lv_has ls 7 [(0, .ref b), (1, .ref (ad 70)), (2, .ref (ad' 80)), (3, .ref o), (4, .int (nI i))]) (kk : lw_N p l e s m below meth c b D cA cL ad ad' o i cells slots Q) : W p l e room_1 s m #[Value.ref b] below meth c H locs cells slots Q (F0 m 575 ls []) := by
  obtain ⟨k, r, f2, g2, z2, g3, z3, rm, hk, hw, hrm, hm, h4, hf0, hb0, hR2⟩ := st_wouldMove l C.htr D cA cL ad ad' o f g z g' z' hR (xs (i + 1)) (xs (i + 2)) (xs (i + 3))
  refine lv_aload_n C.hx C.hb dL_law_575 rfl (lv_at hl 1 rfl) ?_
  refine q_scr C 1 hi (by omega) hS hl dL_law_576 dL_law_577 dL_law_579 dL_law_580 dL_law_581 ?_
  refine q_scr C 2 hi (by omega) hS hl dL_law_582 dL_law_583 dL_law_585 dL_law_586 dL_law_587 ?_
  refine q_scr C 3 hi (by omega) hS hl dL_law_588 dL_law_589 dL_law_591 dL_law_592 dL_law_593 ?_
  refine lv_aload_n C.hx C.hb dL_law_594 rfl (lv_at hl 3 rfl) ?_
  refine q_callL (rest := []) (As := [.ref (ad 70), .int (xs (i + 1)), .int (xs (i + 2)), .int (xs (i + 3)), .ref o]) (ws1 := lwW cA cL ad ad' o f2 g2 z2 g' z') C hP hD hS hw k_L_wouldMove kl_L_123 [] (mdW cA ad' g' z') rfl rfl (congrArg (List.cons o) ((rlW_adr _ _ _ _).trans (rlW_adr _ _ _ _).symm)) hl rfl rfl (Nat.zero_le _) ⟨Nat.le_of_ble_eq_true rfl, Nat.le_of_ble_eq_true rfl⟩ hroom dL_law_595 (fun H locs hP hD hS => ?_)
  refine lv_istore (lv' := [(5, .int (nI k)), (0, .ref b), (1, .ref (ad 70)), (2, .ref (ad' 80)), (3, .ref o), (4, .int (nI i))]) C.hx C.hb dL_law_598 hl (by decide) rfl (fun ls hl => ?_)
  have hl : lv_has ls 7 [(0, .ref b), (1, .ref (ad 70)), (2, .ref (ad' 80)), (3, .ref o), (4, .int (nI i)), (5, .int (nI k))] := lv_sub hl [1, 2, 3, 4, 5, 0] rfl
  refine lv_aload_n C.hx C.hb dL_law_600 rfl (lv_at hl 2 rfl) ?_
  refine q_scr C 1 hi (by omega) hS hl dL_law_601 dL_law_602 dL_law_604 dL_law_605 dL_law_606 ?_
  refine q_scr C 2 hi (by omega) hS hl dL_law_607 dL_law_608 dL_law_610 dL_law_611 dL_law_612 ?_
  refine q_scr C 3 hi (by omega) hS hl dL_law_613 dL_law_614 dL_law_616 dL_law_617 dL_law_618 ?_
  refine q_callM (rest := []) (As := [.int (xs (i + 1)), .int (xs (i + 2)), .int (xs (i + 3))]) C hP hD hS hm k_X6_wouldMove kl_L_125 rfl hl rfl rfl (Nat.zero_le _) ⟨⟨hrm.1, hrm.2.1⟩, (by show rm.frames + 1 ≤ 12; omega), (by show 8 + (4 + 11) + rm.locals ≤ 434; omega)⟩ hroom dL_law_619 (fun H locs hP hD hS => ?_)
  refine lv_istore (lv' := [(6, .int r), (0, .ref b), (1, .ref (ad 70)), (2, .ref (ad' 80)), (3, .ref o), (4, .int (nI i)), (5, .int (nI k))]) C.hx C.hb dL_law_622 hl (by decide) rfl (fun ls hl => ?_)
  have hl : lv_has ls 7 [(0, .ref b), (1, .ref (ad 70)), (2, .ref (ad' 80)), (3, .ref o), (4, .int (nI i)), (5, .int (nI k)), (6, .int r)] := lv_sub hl [1, 2, 3, 4, 5, 6, 0] rfl
  refine q_tail C h4 hk hf0 hP hD hS hl ⟨Nat.le_of_ble_eq_true rfl, Nat.le_of_ble_eq_true rfl⟩ hroom dL_law_624 dL_law_625 dL_law_628 dL_law_630 dL_law_635 dL_law_637 dL_law_640 dL_law_641 dL_law_642 dL_law_643 dL_law_645 dL_law_646 dL_law_647 (fun H locs hP hD hS => ?_)
  refine lv_goto (tgt := 1889) C.hx C.hb dL_law_652 (by decide) ?_
  exact kk f2 g2 z2 g3 z3 H locs ls hR2 hP hD hS (lv_sub hl [0, 1, 2, 3, 4] rfl)
set_option maxHeartbeats 4000000 in
set_option maxRecDepth 100000 in
theorem lw_c_year {p : Program} {l : Launch} {e : Env} {s : State} {m : MethodId} {below : List Frame} {meth : Method} {c : Code} {b L : Nat} {xs : Nat → Int32} {D : va_G} {cA cL : ClassId} {ad ad' : Nat → Nat} {o i cells slots : Nat} {Q : State → Prop} {H : Heap} {locs : List Loc} {ls : Array Slot} {f : Nat → Int64} {g g' : Nat → Nat → Int32} {z z' : Nat → Nat} (C : lw_C p l s m meth c b L xs D cA cL) (hi : i + 4 < L) (hroom : cells + 1 ≤ 606944 ∧ slots + 6 ≤ 7275272) (hR : rRel g z g' z') (hP : va_P D vwCl (lwW cA cL ad ad' o f g z g' z') H) (hD : va_D (lwA s) (lwW cA cL ad ad' o f g z g' z')) (hS : va_S (lwA s) s.heap H locs) (hl : lv_has ls 7 [(0, .ref b), (1, .ref (ad 70)), (2, .ref (ad' 80)), (3, .ref o), (4, .int (nI i))]) (kk : lw_N p l e s m below meth c b D cA cL ad ad' o i cells slots Q) : W p l e room_1 s m #[Value.ref b] below meth c H locs cells slots Q (F0 m 655 ls []) := by
  obtain ⟨k, r, f2, g2, z2, g3, z3, rm, hk, hw, hrm, hm, h4, hf0, hb0, hR2⟩ := st_year l C.htr D cA cL ad ad' o f g z g' z' hR (xs (i + 1)) (!decide (xs (i + 2) = 0))
  refine lv_aload_n C.hx C.hb dL_law_655 rfl (lv_at hl 1 rfl) ?_
  refine q_scr C 1 hi (by omega) hS hl dL_law_656 dL_law_657 dL_law_659 dL_law_660 dL_law_661 ?_
  refine q_scr C 2 hi (by omega) hS hl dL_law_662 dL_law_663 dL_law_665 dL_law_666 dL_law_667 ?_
  refine q_bool C dL_law_668 dL_law_671 dL_law_672 dL_law_675 ?_
  refine lv_aload_n C.hx C.hb dL_law_676 rfl (lv_at hl 3 rfl) ?_
  refine q_callL (rest := []) (As := [.ref (ad 70), .int (xs (i + 1)), .int (q_b (!decide (xs (i + 2) = 0))), .ref o]) (ws1 := lwW cA cL ad ad' o f2 g2 z2 g' z') C hP hD hS hw k_L_year kl_L_126 [] (mdW cA ad' g' z') rfl rfl (congrArg (List.cons o) ((rlW_adr _ _ _ _).trans (rlW_adr _ _ _ _).symm)) hl rfl rfl (Nat.zero_le _) ⟨Nat.le_of_ble_eq_true rfl, Nat.le_of_ble_eq_true rfl⟩ hroom dL_law_677 (fun H locs hP hD hS => ?_)
  refine lv_istore (lv' := [(5, .int (nI k)), (0, .ref b), (1, .ref (ad 70)), (2, .ref (ad' 80)), (3, .ref o), (4, .int (nI i))]) C.hx C.hb dL_law_680 hl (by decide) rfl (fun ls hl => ?_)
  have hl : lv_has ls 7 [(0, .ref b), (1, .ref (ad 70)), (2, .ref (ad' 80)), (3, .ref o), (4, .int (nI i)), (5, .int (nI k))] := lv_sub hl [1, 2, 3, 4, 5, 0] rfl
  refine lv_aload_n C.hx C.hb dL_law_682 rfl (lv_at hl 2 rfl) ?_
  refine q_scr C 1 hi (by omega) hS hl dL_law_683 dL_law_684 dL_law_686 dL_law_687 dL_law_688 ?_
  refine q_scr C 2 hi (by omega) hS hl dL_law_689 dL_law_690 dL_law_692 dL_law_693 dL_law_694 ?_
  refine q_bool C dL_law_695 dL_law_698 dL_law_699 dL_law_702 ?_
  refine q_callM (rest := []) (As := [.int (xs (i + 1)), .int (q_b (!decide (xs (i + 2) = 0)))]) C hP hD hS hm k_X6_year kl_L_129 rfl hl rfl rfl (Nat.zero_le _) ⟨⟨hrm.1, hrm.2.1⟩, (by show rm.frames + 1 ≤ 12; omega), (by show 8 + (3 + 11) + rm.locals ≤ 434; omega)⟩ hroom dL_law_703 (fun H locs hP hD hS => ?_)
  refine lv_istore (lv' := [(6, .int r), (0, .ref b), (1, .ref (ad 70)), (2, .ref (ad' 80)), (3, .ref o), (4, .int (nI i)), (5, .int (nI k))]) C.hx C.hb dL_law_706 hl (by decide) rfl (fun ls hl => ?_)
  have hl : lv_has ls 7 [(0, .ref b), (1, .ref (ad 70)), (2, .ref (ad' 80)), (3, .ref o), (4, .int (nI i)), (5, .int (nI k)), (6, .int r)] := lv_sub hl [1, 2, 3, 4, 5, 6, 0] rfl
  refine q_tail C h4 hk hf0 hP hD hS hl ⟨Nat.le_of_ble_eq_true rfl, Nat.le_of_ble_eq_true rfl⟩ hroom dL_law_708 dL_law_709 dL_law_712 dL_law_714 dL_law_719 dL_law_721 dL_law_724 dL_law_725 dL_law_726 dL_law_727 dL_law_729 dL_law_730 dL_law_731 (fun H locs hP hD hS => ?_)
  refine lv_goto (tgt := 1889) C.hx C.hb dL_law_736 (by decide) ?_
  exact kk f2 g2 z2 g3 z3 H locs ls hR2 hP hD hS (lv_sub hl [0, 1, 2, 3, 4] rfl)
set_option maxHeartbeats 4000000 in
set_option maxRecDepth 100000 in
theorem lw_c_yearAnew {p : Program} {l : Launch} {e : Env} {s : State} {m : MethodId} {below : List Frame} {meth : Method} {c : Code} {b L : Nat} {xs : Nat → Int32} {D : va_G} {cA cL : ClassId} {ad ad' : Nat → Nat} {o i cells slots : Nat} {Q : State → Prop} {H : Heap} {locs : List Loc} {ls : Array Slot} {f : Nat → Int64} {g g' : Nat → Nat → Int32} {z z' : Nat → Nat} (C : lw_C p l s m meth c b L xs D cA cL) (hi : i + 4 < L) (hroom : cells + 1 ≤ 606944 ∧ slots + 6 ≤ 7275272) (hR : rRel g z g' z') (hP : va_P D vwCl (lwW cA cL ad ad' o f g z g' z') H) (hD : va_D (lwA s) (lwW cA cL ad ad' o f g z g' z')) (hS : va_S (lwA s) s.heap H locs) (hl : lv_has ls 7 [(0, .ref b), (1, .ref (ad 70)), (2, .ref (ad' 80)), (3, .ref o), (4, .int (nI i))]) (kk : lw_N p l e s m below meth c b D cA cL ad ad' o i cells slots Q) : W p l e room_1 s m #[Value.ref b] below meth c H locs cells slots Q (F0 m 739 ls []) := by
  obtain ⟨k, r, f2, g2, z2, g3, z3, rm, hk, hw, hrm, hm, h4, hf0, hb0, hR2⟩ := st_yearAnew l C.htr D cA cL ad ad' o f g z g' z' hR (xs (i + 1)) (!decide (xs (i + 2) = 0))
  refine lv_aload_n C.hx C.hb dL_law_739 rfl (lv_at hl 1 rfl) ?_
  refine q_scr C 1 hi (by omega) hS hl dL_law_740 dL_law_741 dL_law_743 dL_law_744 dL_law_745 ?_
  refine q_scr C 2 hi (by omega) hS hl dL_law_746 dL_law_747 dL_law_749 dL_law_750 dL_law_751 ?_
  refine q_bool C dL_law_752 dL_law_755 dL_law_756 dL_law_759 ?_
  refine lv_aload_n C.hx C.hb dL_law_760 rfl (lv_at hl 3 rfl) ?_
  refine q_callL (rest := []) (As := [.ref (ad 70), .int (xs (i + 1)), .int (q_b (!decide (xs (i + 2) = 0))), .ref o]) (ws1 := lwW cA cL ad ad' o f2 g2 z2 g' z') C hP hD hS hw k_L_yearAnew kl_L_130 [] (mdW cA ad' g' z') rfl rfl (congrArg (List.cons o) ((rlW_adr _ _ _ _).trans (rlW_adr _ _ _ _).symm)) hl rfl rfl (Nat.zero_le _) ⟨Nat.le_of_ble_eq_true rfl, Nat.le_of_ble_eq_true rfl⟩ hroom dL_law_761 (fun H locs hP hD hS => ?_)
  refine lv_istore (lv' := [(5, .int (nI k)), (0, .ref b), (1, .ref (ad 70)), (2, .ref (ad' 80)), (3, .ref o), (4, .int (nI i))]) C.hx C.hb dL_law_764 hl (by decide) rfl (fun ls hl => ?_)
  have hl : lv_has ls 7 [(0, .ref b), (1, .ref (ad 70)), (2, .ref (ad' 80)), (3, .ref o), (4, .int (nI i)), (5, .int (nI k))] := lv_sub hl [1, 2, 3, 4, 5, 0] rfl
  refine lv_aload_n C.hx C.hb dL_law_766 rfl (lv_at hl 2 rfl) ?_
  refine q_scr C 1 hi (by omega) hS hl dL_law_767 dL_law_768 dL_law_770 dL_law_771 dL_law_772 ?_
  refine q_scr C 2 hi (by omega) hS hl dL_law_773 dL_law_774 dL_law_776 dL_law_777 dL_law_778 ?_
  refine q_bool C dL_law_779 dL_law_782 dL_law_783 dL_law_786 ?_
  refine q_callM (rest := []) (As := [.int (xs (i + 1)), .int (q_b (!decide (xs (i + 2) = 0)))]) C hP hD hS hm k_X6_yearAnew kl_L_132 rfl hl rfl rfl (Nat.zero_le _) ⟨⟨hrm.1, hrm.2.1⟩, (by show rm.frames + 1 ≤ 12; omega), (by show 8 + (3 + 11) + rm.locals ≤ 434; omega)⟩ hroom dL_law_787 (fun H locs hP hD hS => ?_)
  refine lv_istore (lv' := [(6, .int r), (0, .ref b), (1, .ref (ad 70)), (2, .ref (ad' 80)), (3, .ref o), (4, .int (nI i)), (5, .int (nI k))]) C.hx C.hb dL_law_790 hl (by decide) rfl (fun ls hl => ?_)
  have hl : lv_has ls 7 [(0, .ref b), (1, .ref (ad 70)), (2, .ref (ad' 80)), (3, .ref o), (4, .int (nI i)), (5, .int (nI k)), (6, .int r)] := lv_sub hl [1, 2, 3, 4, 5, 6, 0] rfl
  refine q_tail C h4 hk hf0 hP hD hS hl ⟨Nat.le_of_ble_eq_true rfl, Nat.le_of_ble_eq_true rfl⟩ hroom dL_law_792 dL_law_793 dL_law_796 dL_law_798 dL_law_803 dL_law_805 dL_law_808 dL_law_809 dL_law_810 dL_law_811 dL_law_813 dL_law_814 dL_law_815 (fun H locs hP hD hS => ?_)
  refine lv_goto (tgt := 1889) C.hx C.hb dL_law_820 (by decide) ?_
  exact kk f2 g2 z2 g3 z3 H locs ls hR2 hP hD hS (lv_sub hl [0, 1, 2, 3, 4] rfl)
set_option maxHeartbeats 4000000 in
set_option maxRecDepth 100000 in
theorem lw_c_seal {p : Program} {l : Launch} {e : Env} {s : State} {m : MethodId} {below : List Frame} {meth : Method} {c : Code} {b L : Nat} {xs : Nat → Int32} {D : va_G} {cA cL : ClassId} {ad ad' : Nat → Nat} {o i cells slots : Nat} {Q : State → Prop} {H : Heap} {locs : List Loc} {ls : Array Slot} {f : Nat → Int64} {g g' : Nat → Nat → Int32} {z z' : Nat → Nat} (C : lw_C p l s m meth c b L xs D cA cL) (hi : i + 4 < L) (hroom : cells + 1 ≤ 606944 ∧ slots + 6 ≤ 7275272) (hR : rRel g z g' z') (hP : va_P D vwCl (lwW cA cL ad ad' o f g z g' z') H) (hD : va_D (lwA s) (lwW cA cL ad ad' o f g z g' z')) (hS : va_S (lwA s) s.heap H locs) (hl : lv_has ls 7 [(0, .ref b), (1, .ref (ad 70)), (2, .ref (ad' 80)), (3, .ref o), (4, .int (nI i))]) (kk : lw_N p l e s m below meth c b D cA cL ad ad' o i cells slots Q) : W p l e room_1 s m #[Value.ref b] below meth c H locs cells slots Q (F0 m 823 ls []) := by
  obtain ⟨k, r, f2, g2, z2, g3, z3, rm, hk, hw, hrm, hm, h4, hf0, hb0, hR2⟩ := st_seal l C.htr D cA cL ad ad' o f g z g' z' hR (xs (i + 1)) (xs (i + 2))
  refine lv_aload_n C.hx C.hb dL_law_823 rfl (lv_at hl 1 rfl) ?_
  refine q_scr C 1 hi (by omega) hS hl dL_law_824 dL_law_825 dL_law_827 dL_law_828 dL_law_829 ?_
  refine q_scr C 2 hi (by omega) hS hl dL_law_830 dL_law_831 dL_law_833 dL_law_834 dL_law_835 ?_
  refine lv_aload_n C.hx C.hb dL_law_836 rfl (lv_at hl 3 rfl) ?_
  refine q_callL (rest := []) (As := [.ref (ad 70), .int (xs (i + 1)), .int (xs (i + 2)), .ref o]) (ws1 := lwW cA cL ad ad' o f2 g2 z2 g' z') C hP hD hS hw k_L_seal kl_L_133 [] (mdW cA ad' g' z') rfl rfl (congrArg (List.cons o) ((rlW_adr _ _ _ _).trans (rlW_adr _ _ _ _).symm)) hl rfl rfl (Nat.zero_le _) ⟨Nat.le_of_ble_eq_true rfl, Nat.le_of_ble_eq_true rfl⟩ hroom dL_law_837 (fun H locs hP hD hS => ?_)
  refine lv_istore (lv' := [(5, .int (nI k)), (0, .ref b), (1, .ref (ad 70)), (2, .ref (ad' 80)), (3, .ref o), (4, .int (nI i))]) C.hx C.hb dL_law_840 hl (by decide) rfl (fun ls hl => ?_)
  have hl : lv_has ls 7 [(0, .ref b), (1, .ref (ad 70)), (2, .ref (ad' 80)), (3, .ref o), (4, .int (nI i)), (5, .int (nI k))] := lv_sub hl [1, 2, 3, 4, 5, 0] rfl
  refine lv_aload_n C.hx C.hb dL_law_842 rfl (lv_at hl 2 rfl) ?_
  refine q_scr C 1 hi (by omega) hS hl dL_law_843 dL_law_844 dL_law_846 dL_law_847 dL_law_848 ?_
  refine q_scr C 2 hi (by omega) hS hl dL_law_849 dL_law_850 dL_law_852 dL_law_853 dL_law_854 ?_
  refine q_callM (rest := []) (As := [.int (xs (i + 1)), .int (xs (i + 2))]) C hP hD hS hm k_X6_seal kl_L_135 rfl hl rfl rfl (Nat.zero_le _) ⟨⟨hrm.1, hrm.2.1⟩, (by show rm.frames + 1 ≤ 12; omega), (by show 8 + (4 + 11) + rm.locals ≤ 434; omega)⟩ hroom dL_law_855 (fun H locs hP hD hS => ?_)
  refine lv_istore (lv' := [(6, .int r), (0, .ref b), (1, .ref (ad 70)), (2, .ref (ad' 80)), (3, .ref o), (4, .int (nI i)), (5, .int (nI k))]) C.hx C.hb dL_law_858 hl (by decide) rfl (fun ls hl => ?_)
  have hl : lv_has ls 7 [(0, .ref b), (1, .ref (ad 70)), (2, .ref (ad' 80)), (3, .ref o), (4, .int (nI i)), (5, .int (nI k)), (6, .int r)] := lv_sub hl [1, 2, 3, 4, 5, 6, 0] rfl
  refine q_tailb C h4 hk hf0 (hb0 rfl) hP hD hS hl ⟨Nat.le_of_ble_eq_true rfl, Nat.le_of_ble_eq_true rfl⟩ hroom dL_law_860 dL_law_861 dL_law_864 dL_law_866 dL_law_871 dL_law_873 dL_law_876 dL_law_877 dL_law_878 dL_law_879 dL_law_881 dL_law_884 dL_law_885 dL_law_888 dL_law_889 dL_law_890 (fun H locs hP hD hS => ?_)
  refine lv_goto (tgt := 1889) C.hx C.hb dL_law_895 (by decide) ?_
  exact kk f2 g2 z2 g3 z3 H locs ls hR2 hP hD hS (lv_sub hl [0, 1, 2, 3, 4] rfl)
set_option maxHeartbeats 4000000 in
set_option maxRecDepth 100000 in
theorem lw_c_block {p : Program} {l : Launch} {e : Env} {s : State} {m : MethodId} {below : List Frame} {meth : Method} {c : Code} {b L : Nat} {xs : Nat → Int32} {D : va_G} {cA cL : ClassId} {ad ad' : Nat → Nat} {o i cells slots : Nat} {Q : State → Prop} {H : Heap} {locs : List Loc} {ls : Array Slot} {f : Nat → Int64} {g g' : Nat → Nat → Int32} {z z' : Nat → Nat} (C : lw_C p l s m meth c b L xs D cA cL) (hi : i + 4 < L) (hroom : cells + 1 ≤ 606944 ∧ slots + 6 ≤ 7275272) (hR : rRel g z g' z') (hP : va_P D vwCl (lwW cA cL ad ad' o f g z g' z') H) (hD : va_D (lwA s) (lwW cA cL ad ad' o f g z g' z')) (hS : va_S (lwA s) s.heap H locs) (hl : lv_has ls 7 [(0, .ref b), (1, .ref (ad 70)), (2, .ref (ad' 80)), (3, .ref o), (4, .int (nI i))]) (kk : lw_N p l e s m below meth c b D cA cL ad ad' o i cells slots Q) : W p l e room_1 s m #[Value.ref b] below meth c H locs cells slots Q (F0 m 898 ls []) := by
  obtain ⟨k, r, f2, g2, z2, g3, z3, rm, hk, hw, hrm, hm, h4, hf0, hb0, hR2⟩ := st_block l C.htr D cA cL ad ad' o f g z g' z' hR (xs (i + 1)) (xs (i + 2)) (!decide (xs (i + 3) = 0))
  refine lv_aload_n C.hx C.hb dL_law_898 rfl (lv_at hl 1 rfl) ?_
  refine q_scr C 1 hi (by omega) hS hl dL_law_899 dL_law_900 dL_law_902 dL_law_903 dL_law_904 ?_
  refine q_scr C 2 hi (by omega) hS hl dL_law_905 dL_law_906 dL_law_908 dL_law_909 dL_law_910 ?_
  refine q_scr C 3 hi (by omega) hS hl dL_law_911 dL_law_912 dL_law_914 dL_law_915 dL_law_916 ?_
  refine q_bool C dL_law_917 dL_law_920 dL_law_921 dL_law_924 ?_
  refine lv_aload_n C.hx C.hb dL_law_925 rfl (lv_at hl 3 rfl) ?_
  refine q_callL (rest := []) (As := [.ref (ad 70), .int (xs (i + 1)), .int (xs (i + 2)), .int (q_b (!decide (xs (i + 3) = 0))), .ref o]) (ws1 := lwW cA cL ad ad' o f2 g2 z2 g' z') C hP hD hS hw k_L_block kl_L_136 [] (mdW cA ad' g' z') rfl rfl (congrArg (List.cons o) ((rlW_adr _ _ _ _).trans (rlW_adr _ _ _ _).symm)) hl rfl rfl (Nat.zero_le _) ⟨Nat.le_of_ble_eq_true rfl, Nat.le_of_ble_eq_true rfl⟩ hroom dL_law_926 (fun H locs hP hD hS => ?_)
  refine lv_istore (lv' := [(5, .int (nI k)), (0, .ref b), (1, .ref (ad 70)), (2, .ref (ad' 80)), (3, .ref o), (4, .int (nI i))]) C.hx C.hb dL_law_929 hl (by decide) rfl (fun ls hl => ?_)
  have hl : lv_has ls 7 [(0, .ref b), (1, .ref (ad 70)), (2, .ref (ad' 80)), (3, .ref o), (4, .int (nI i)), (5, .int (nI k))] := lv_sub hl [1, 2, 3, 4, 5, 0] rfl
  refine lv_aload_n C.hx C.hb dL_law_931 rfl (lv_at hl 2 rfl) ?_
  refine q_scr C 1 hi (by omega) hS hl dL_law_932 dL_law_933 dL_law_935 dL_law_936 dL_law_937 ?_
  refine q_scr C 2 hi (by omega) hS hl dL_law_938 dL_law_939 dL_law_941 dL_law_942 dL_law_943 ?_
  refine q_scr C 3 hi (by omega) hS hl dL_law_944 dL_law_945 dL_law_947 dL_law_948 dL_law_949 ?_
  refine q_bool C dL_law_950 dL_law_953 dL_law_954 dL_law_957 ?_
  refine q_callM (rest := []) (As := [.int (xs (i + 1)), .int (xs (i + 2)), .int (q_b (!decide (xs (i + 3) = 0)))]) C hP hD hS hm k_X6_block kl_L_138 rfl hl rfl rfl (Nat.zero_le _) ⟨⟨hrm.1, hrm.2.1⟩, (by show rm.frames + 1 ≤ 12; omega), (by show 8 + (5 + 11) + rm.locals ≤ 434; omega)⟩ hroom dL_law_958 (fun H locs hP hD hS => ?_)
  refine lv_istore (lv' := [(6, .int r), (0, .ref b), (1, .ref (ad 70)), (2, .ref (ad' 80)), (3, .ref o), (4, .int (nI i)), (5, .int (nI k))]) C.hx C.hb dL_law_961 hl (by decide) rfl (fun ls hl => ?_)
  have hl : lv_has ls 7 [(0, .ref b), (1, .ref (ad 70)), (2, .ref (ad' 80)), (3, .ref o), (4, .int (nI i)), (5, .int (nI k)), (6, .int r)] := lv_sub hl [1, 2, 3, 4, 5, 6, 0] rfl
  refine q_tailb C h4 hk hf0 (hb0 rfl) hP hD hS hl ⟨Nat.le_of_ble_eq_true rfl, Nat.le_of_ble_eq_true rfl⟩ hroom dL_law_963 dL_law_964 dL_law_967 dL_law_969 dL_law_974 dL_law_976 dL_law_979 dL_law_980 dL_law_981 dL_law_982 dL_law_984 dL_law_987 dL_law_988 dL_law_991 dL_law_992 dL_law_993 (fun H locs hP hD hS => ?_)
  refine lv_goto (tgt := 1889) C.hx C.hb dL_law_998 (by decide) ?_
  exact kk f2 g2 z2 g3 z3 H locs ls hR2 hP hD hS (lv_sub hl [0, 1, 2, 3, 4] rfl)
set_option maxHeartbeats 4000000 in
set_option maxRecDepth 100000 in
theorem lw_c_weight {p : Program} {l : Launch} {e : Env} {s : State} {m : MethodId} {below : List Frame} {meth : Method} {c : Code} {b L : Nat} {xs : Nat → Int32} {D : va_G} {cA cL : ClassId} {ad ad' : Nat → Nat} {o i cells slots : Nat} {Q : State → Prop} {H : Heap} {locs : List Loc} {ls : Array Slot} {f : Nat → Int64} {g g' : Nat → Nat → Int32} {z z' : Nat → Nat} (C : lw_C p l s m meth c b L xs D cA cL) (hi : i + 4 < L) (hroom : cells + 1 ≤ 606944 ∧ slots + 6 ≤ 7275272) (hR : rRel g z g' z') (hP : va_P D vwCl (lwW cA cL ad ad' o f g z g' z') H) (hD : va_D (lwA s) (lwW cA cL ad ad' o f g z g' z')) (hS : va_S (lwA s) s.heap H locs) (hl : lv_has ls 7 [(0, .ref b), (1, .ref (ad 70)), (2, .ref (ad' 80)), (3, .ref o), (4, .int (nI i))]) (kk : lw_N p l e s m below meth c b D cA cL ad ad' o i cells slots Q) : W p l e room_1 s m #[Value.ref b] below meth c H locs cells slots Q (F0 m 1001 ls []) := by
  obtain ⟨k, r, f2, g2, z2, g3, z3, rm, hk, hw, hrm, hm, h4, hf0, hb0, hR2⟩ := st_weight l C.htr D cA cL ad ad' o f g z g' z' hR (xs (i + 1)) (xs (i + 2))
  refine lv_aload_n C.hx C.hb dL_law_1001 rfl (lv_at hl 1 rfl) ?_
  refine q_scr C 1 hi (by omega) hS hl dL_law_1002 dL_law_1003 dL_law_1005 dL_law_1006 dL_law_1007 ?_
  refine q_scr C 2 hi (by omega) hS hl dL_law_1008 dL_law_1009 dL_law_1011 dL_law_1012 dL_law_1013 ?_
  refine lv_aload_n C.hx C.hb dL_law_1014 rfl (lv_at hl 3 rfl) ?_
  refine q_callL (rest := []) (As := [.ref (ad 70), .int (xs (i + 1)), .int (xs (i + 2)), .ref o]) (ws1 := lwW cA cL ad ad' o f2 g2 z2 g' z') C hP hD hS hw k_L_weight kl_L_139 [] (mdW cA ad' g' z') rfl rfl (congrArg (List.cons o) ((rlW_adr _ _ _ _).trans (rlW_adr _ _ _ _).symm)) hl rfl rfl (Nat.zero_le _) ⟨Nat.le_of_ble_eq_true rfl, Nat.le_of_ble_eq_true rfl⟩ hroom dL_law_1015 (fun H locs hP hD hS => ?_)
  refine lv_istore (lv' := [(5, .int (nI k)), (0, .ref b), (1, .ref (ad 70)), (2, .ref (ad' 80)), (3, .ref o), (4, .int (nI i))]) C.hx C.hb dL_law_1018 hl (by decide) rfl (fun ls hl => ?_)
  have hl : lv_has ls 7 [(0, .ref b), (1, .ref (ad 70)), (2, .ref (ad' 80)), (3, .ref o), (4, .int (nI i)), (5, .int (nI k))] := lv_sub hl [1, 2, 3, 4, 5, 0] rfl
  refine lv_aload_n C.hx C.hb dL_law_1020 rfl (lv_at hl 2 rfl) ?_
  refine q_scr C 1 hi (by omega) hS hl dL_law_1021 dL_law_1022 dL_law_1024 dL_law_1025 dL_law_1026 ?_
  refine q_scr C 2 hi (by omega) hS hl dL_law_1027 dL_law_1028 dL_law_1030 dL_law_1031 dL_law_1032 ?_
  refine q_callM (rest := []) (As := [.int (xs (i + 1)), .int (xs (i + 2))]) C hP hD hS hm k_X6_weight kl_L_141 rfl hl rfl rfl (Nat.zero_le _) ⟨⟨hrm.1, hrm.2.1⟩, (by show rm.frames + 1 ≤ 12; omega), (by show 8 + (3 + 11) + rm.locals ≤ 434; omega)⟩ hroom dL_law_1033 (fun H locs hP hD hS => ?_)
  refine lv_istore (lv' := [(6, .int r), (0, .ref b), (1, .ref (ad 70)), (2, .ref (ad' 80)), (3, .ref o), (4, .int (nI i)), (5, .int (nI k))]) C.hx C.hb dL_law_1036 hl (by decide) rfl (fun ls hl => ?_)
  have hl : lv_has ls 7 [(0, .ref b), (1, .ref (ad 70)), (2, .ref (ad' 80)), (3, .ref o), (4, .int (nI i)), (5, .int (nI k)), (6, .int r)] := lv_sub hl [1, 2, 3, 4, 5, 6, 0] rfl
  refine q_tail C h4 hk hf0 hP hD hS hl ⟨Nat.le_of_ble_eq_true rfl, Nat.le_of_ble_eq_true rfl⟩ hroom dL_law_1038 dL_law_1039 dL_law_1042 dL_law_1044 dL_law_1049 dL_law_1051 dL_law_1054 dL_law_1055 dL_law_1056 dL_law_1057 dL_law_1059 dL_law_1060 dL_law_1061 (fun H locs hP hD hS => ?_)
  refine lv_goto (tgt := 1889) C.hx C.hb dL_law_1066 (by decide) ?_
  exact kk f2 g2 z2 g3 z3 H locs ls hR2 hP hD hS (lv_sub hl [0, 1, 2, 3, 4] rfl)
set_option maxHeartbeats 4000000 in
set_option maxRecDepth 100000 in
theorem lw_c_whyNot {p : Program} {l : Launch} {e : Env} {s : State} {m : MethodId} {below : List Frame} {meth : Method} {c : Code} {b L : Nat} {xs : Nat → Int32} {D : va_G} {cA cL : ClassId} {ad ad' : Nat → Nat} {o i cells slots : Nat} {Q : State → Prop} {H : Heap} {locs : List Loc} {ls : Array Slot} {f : Nat → Int64} {g g' : Nat → Nat → Int32} {z z' : Nat → Nat} (C : lw_C p l s m meth c b L xs D cA cL) (hi : i + 4 < L) (hroom : cells + 1 ≤ 606944 ∧ slots + 6 ≤ 7275272) (hR : rRel g z g' z') (hP : va_P D vwCl (lwW cA cL ad ad' o f g z g' z') H) (hD : va_D (lwA s) (lwW cA cL ad ad' o f g z g' z')) (hS : va_S (lwA s) s.heap H locs) (hl : lv_has ls 7 [(0, .ref b), (1, .ref (ad 70)), (2, .ref (ad' 80)), (3, .ref o), (4, .int (nI i))]) (kk : lw_N p l e s m below meth c b D cA cL ad ad' o i cells slots Q) : W p l e room_1 s m #[Value.ref b] below meth c H locs cells slots Q (F0 m 1069 ls []) := by
  obtain ⟨k, r, f2, g2, z2, g3, z3, rm, hk, hw, hrm, hm, h4, hf0, hb0, hR2⟩ := st_whyNot l C.htr D cA cL ad ad' o f g z g' z' hR (xs (i + 1)) (xs (i + 2))
  refine lv_aload_n C.hx C.hb dL_law_1069 rfl (lv_at hl 1 rfl) ?_
  refine q_scr C 1 hi (by omega) hS hl dL_law_1070 dL_law_1071 dL_law_1073 dL_law_1074 dL_law_1075 ?_
  refine q_scr C 2 hi (by omega) hS hl dL_law_1076 dL_law_1077 dL_law_1079 dL_law_1080 dL_law_1081 ?_
  refine lv_aload_n C.hx C.hb dL_law_1082 rfl (lv_at hl 3 rfl) ?_
  refine q_callL (rest := []) (As := [.ref (ad 70), .int (xs (i + 1)), .int (xs (i + 2)), .ref o]) (ws1 := lwW cA cL ad ad' o f2 g2 z2 g' z') C hP hD hS hw k_L_whyNot kl_L_142 [] (mdW cA ad' g' z') rfl rfl (congrArg (List.cons o) ((rlW_adr _ _ _ _).trans (rlW_adr _ _ _ _).symm)) hl rfl rfl (Nat.zero_le _) ⟨Nat.le_of_ble_eq_true rfl, Nat.le_of_ble_eq_true rfl⟩ hroom dL_law_1083 (fun H locs hP hD hS => ?_)
  refine lv_istore (lv' := [(5, .int (nI k)), (0, .ref b), (1, .ref (ad 70)), (2, .ref (ad' 80)), (3, .ref o), (4, .int (nI i))]) C.hx C.hb dL_law_1086 hl (by decide) rfl (fun ls hl => ?_)
  have hl : lv_has ls 7 [(0, .ref b), (1, .ref (ad 70)), (2, .ref (ad' 80)), (3, .ref o), (4, .int (nI i)), (5, .int (nI k))] := lv_sub hl [1, 2, 3, 4, 5, 0] rfl
  refine lv_aload_n C.hx C.hb dL_law_1088 rfl (lv_at hl 2 rfl) ?_
  refine q_scr C 1 hi (by omega) hS hl dL_law_1089 dL_law_1090 dL_law_1092 dL_law_1093 dL_law_1094 ?_
  refine q_scr C 2 hi (by omega) hS hl dL_law_1095 dL_law_1096 dL_law_1098 dL_law_1099 dL_law_1100 ?_
  refine q_callM (rest := []) (As := [.int (xs (i + 1)), .int (xs (i + 2))]) C hP hD hS hm k_X6_whyNot kl_L_144 rfl hl rfl rfl (Nat.zero_le _) ⟨⟨hrm.1, hrm.2.1⟩, (by show rm.frames + 1 ≤ 12; omega), (by show 8 + (3 + 11) + rm.locals ≤ 434; omega)⟩ hroom dL_law_1101 (fun H locs hP hD hS => ?_)
  refine lv_istore (lv' := [(6, .int r), (0, .ref b), (1, .ref (ad 70)), (2, .ref (ad' 80)), (3, .ref o), (4, .int (nI i)), (5, .int (nI k))]) C.hx C.hb dL_law_1104 hl (by decide) rfl (fun ls hl => ?_)
  have hl : lv_has ls 7 [(0, .ref b), (1, .ref (ad 70)), (2, .ref (ad' 80)), (3, .ref o), (4, .int (nI i)), (5, .int (nI k)), (6, .int r)] := lv_sub hl [1, 2, 3, 4, 5, 6, 0] rfl
  refine q_tail C h4 hk hf0 hP hD hS hl ⟨Nat.le_of_ble_eq_true rfl, Nat.le_of_ble_eq_true rfl⟩ hroom dL_law_1106 dL_law_1107 dL_law_1110 dL_law_1112 dL_law_1117 dL_law_1119 dL_law_1122 dL_law_1123 dL_law_1124 dL_law_1125 dL_law_1127 dL_law_1128 dL_law_1129 (fun H locs hP hD hS => ?_)
  refine lv_goto (tgt := 1889) C.hx C.hb dL_law_1134 (by decide) ?_
  exact kk f2 g2 z2 g3 z3 H locs ls hR2 hP hD hS (lv_sub hl [0, 1, 2, 3, 4] rfl)
set_option maxHeartbeats 4000000 in
set_option maxRecDepth 100000 in
theorem lw_c_join {p : Program} {l : Launch} {e : Env} {s : State} {m : MethodId} {below : List Frame} {meth : Method} {c : Code} {b L : Nat} {xs : Nat → Int32} {D : va_G} {cA cL : ClassId} {ad ad' : Nat → Nat} {o i cells slots : Nat} {Q : State → Prop} {H : Heap} {locs : List Loc} {ls : Array Slot} {f : Nat → Int64} {g g' : Nat → Nat → Int32} {z z' : Nat → Nat} (C : lw_C p l s m meth c b L xs D cA cL) (hi : i + 4 < L) (hroom : cells + 1 ≤ 606944 ∧ slots + 6 ≤ 7275272) (hR : rRel g z g' z') (hP : va_P D vwCl (lwW cA cL ad ad' o f g z g' z') H) (hD : va_D (lwA s) (lwW cA cL ad ad' o f g z g' z')) (hS : va_S (lwA s) s.heap H locs) (hl : lv_has ls 7 [(0, .ref b), (1, .ref (ad 70)), (2, .ref (ad' 80)), (3, .ref o), (4, .int (nI i))]) (kk : lw_N p l e s m below meth c b D cA cL ad ad' o i cells slots Q) : W p l e room_1 s m #[Value.ref b] below meth c H locs cells slots Q (F0 m 1137 ls []) := by
  obtain ⟨k, r, f2, g2, z2, g3, z3, rm, hk, hw, hrm, hm, h4, hf0, hb0, hR2⟩ := st_join l C.htr D cA cL ad ad' o f g z g' z' hR (xs (i + 1)) (xs (i + 2))
  refine lv_aload_n C.hx C.hb dL_law_1137 rfl (lv_at hl 1 rfl) ?_
  refine q_scr C 1 hi (by omega) hS hl dL_law_1138 dL_law_1139 dL_law_1141 dL_law_1142 dL_law_1143 ?_
  refine q_scr C 2 hi (by omega) hS hl dL_law_1144 dL_law_1145 dL_law_1147 dL_law_1148 dL_law_1149 ?_
  refine lv_aload_n C.hx C.hb dL_law_1150 rfl (lv_at hl 3 rfl) ?_
  refine q_callL (rest := []) (As := [.ref (ad 70), .int (xs (i + 1)), .int (xs (i + 2)), .ref o]) (ws1 := lwW cA cL ad ad' o f2 g2 z2 g' z') C hP hD hS hw k_L_join kl_L_145 [] (mdW cA ad' g' z') rfl rfl (congrArg (List.cons o) ((rlW_adr _ _ _ _).trans (rlW_adr _ _ _ _).symm)) hl rfl rfl (Nat.zero_le _) ⟨Nat.le_of_ble_eq_true rfl, Nat.le_of_ble_eq_true rfl⟩ hroom dL_law_1151 (fun H locs hP hD hS => ?_)
  refine lv_istore (lv' := [(5, .int (nI k)), (0, .ref b), (1, .ref (ad 70)), (2, .ref (ad' 80)), (3, .ref o), (4, .int (nI i))]) C.hx C.hb dL_law_1154 hl (by decide) rfl (fun ls hl => ?_)
  have hl : lv_has ls 7 [(0, .ref b), (1, .ref (ad 70)), (2, .ref (ad' 80)), (3, .ref o), (4, .int (nI i)), (5, .int (nI k))] := lv_sub hl [1, 2, 3, 4, 5, 0] rfl
  refine lv_aload_n C.hx C.hb dL_law_1156 rfl (lv_at hl 2 rfl) ?_
  refine q_scr C 1 hi (by omega) hS hl dL_law_1157 dL_law_1158 dL_law_1160 dL_law_1161 dL_law_1162 ?_
  refine q_scr C 2 hi (by omega) hS hl dL_law_1163 dL_law_1164 dL_law_1166 dL_law_1167 dL_law_1168 ?_
  refine q_callM (rest := []) (As := [.int (xs (i + 1)), .int (xs (i + 2))]) C hP hD hS hm k_X6_join kl_L_147 rfl hl rfl rfl (Nat.zero_le _) ⟨⟨hrm.1, hrm.2.1⟩, (by show rm.frames + 1 ≤ 12; omega), (by show 8 + (8 + 11) + rm.locals ≤ 434; omega)⟩ hroom dL_law_1169 (fun H locs hP hD hS => ?_)
  refine lv_istore (lv' := [(6, .int r), (0, .ref b), (1, .ref (ad 70)), (2, .ref (ad' 80)), (3, .ref o), (4, .int (nI i)), (5, .int (nI k))]) C.hx C.hb dL_law_1172 hl (by decide) rfl (fun ls hl => ?_)
  have hl : lv_has ls 7 [(0, .ref b), (1, .ref (ad 70)), (2, .ref (ad' 80)), (3, .ref o), (4, .int (nI i)), (5, .int (nI k)), (6, .int r)] := lv_sub hl [1, 2, 3, 4, 5, 6, 0] rfl
  refine q_tail C h4 hk hf0 hP hD hS hl ⟨Nat.le_of_ble_eq_true rfl, Nat.le_of_ble_eq_true rfl⟩ hroom dL_law_1174 dL_law_1175 dL_law_1178 dL_law_1180 dL_law_1185 dL_law_1187 dL_law_1190 dL_law_1191 dL_law_1192 dL_law_1193 dL_law_1195 dL_law_1196 dL_law_1197 (fun H locs hP hD hS => ?_)
  refine lv_goto (tgt := 1889) C.hx C.hb dL_law_1202 (by decide) ?_
  exact kk f2 g2 z2 g3 z3 H locs ls hR2 hP hD hS (lv_sub hl [0, 1, 2, 3, 4] rfl)
set_option maxHeartbeats 4000000 in
set_option maxRecDepth 100000 in
theorem lw_c_split {p : Program} {l : Launch} {e : Env} {s : State} {m : MethodId} {below : List Frame} {meth : Method} {c : Code} {b L : Nat} {xs : Nat → Int32} {D : va_G} {cA cL : ClassId} {ad ad' : Nat → Nat} {o i cells slots : Nat} {Q : State → Prop} {H : Heap} {locs : List Loc} {ls : Array Slot} {f : Nat → Int64} {g g' : Nat → Nat → Int32} {z z' : Nat → Nat} (C : lw_C p l s m meth c b L xs D cA cL) (hi : i + 4 < L) (hroom : cells + 1 ≤ 606944 ∧ slots + 6 ≤ 7275272) (hR : rRel g z g' z') (hP : va_P D vwCl (lwW cA cL ad ad' o f g z g' z') H) (hD : va_D (lwA s) (lwW cA cL ad ad' o f g z g' z')) (hS : va_S (lwA s) s.heap H locs) (hl : lv_has ls 7 [(0, .ref b), (1, .ref (ad 70)), (2, .ref (ad' 80)), (3, .ref o), (4, .int (nI i))]) (kk : lw_N p l e s m below meth c b D cA cL ad ad' o i cells slots Q) : W p l e room_1 s m #[Value.ref b] below meth c H locs cells slots Q (F0 m 1205 ls []) := by
  obtain ⟨k, r, f2, g2, z2, g3, z3, rm, hk, hw, hrm, hm, h4, hf0, hb0, hR2⟩ := st_split l C.htr D cA cL ad ad' o f g z g' z' hR (xs (i + 1))
  refine lv_aload_n C.hx C.hb dL_law_1205 rfl (lv_at hl 1 rfl) ?_
  refine q_scr C 1 hi (by omega) hS hl dL_law_1206 dL_law_1207 dL_law_1209 dL_law_1210 dL_law_1211 ?_
  refine lv_aload_n C.hx C.hb dL_law_1212 rfl (lv_at hl 3 rfl) ?_
  refine q_callL (rest := []) (As := [.ref (ad 70), .int (xs (i + 1)), .ref o]) (ws1 := lwW cA cL ad ad' o f2 g2 z2 g' z') C hP hD hS hw k_L_split kl_L_148 [] (mdW cA ad' g' z') rfl rfl (congrArg (List.cons o) ((rlW_adr _ _ _ _).trans (rlW_adr _ _ _ _).symm)) hl rfl rfl (Nat.zero_le _) ⟨Nat.le_of_ble_eq_true rfl, Nat.le_of_ble_eq_true rfl⟩ hroom dL_law_1213 (fun H locs hP hD hS => ?_)
  refine lv_istore (lv' := [(5, .int (nI k)), (0, .ref b), (1, .ref (ad 70)), (2, .ref (ad' 80)), (3, .ref o), (4, .int (nI i))]) C.hx C.hb dL_law_1216 hl (by decide) rfl (fun ls hl => ?_)
  have hl : lv_has ls 7 [(0, .ref b), (1, .ref (ad 70)), (2, .ref (ad' 80)), (3, .ref o), (4, .int (nI i)), (5, .int (nI k))] := lv_sub hl [1, 2, 3, 4, 5, 0] rfl
  refine lv_aload_n C.hx C.hb dL_law_1218 rfl (lv_at hl 2 rfl) ?_
  refine q_scr C 1 hi (by omega) hS hl dL_law_1219 dL_law_1220 dL_law_1222 dL_law_1223 dL_law_1224 ?_
  refine q_callM (rest := []) (As := [.int (xs (i + 1))]) C hP hD hS hm k_X6_split kl_L_151 rfl hl rfl rfl (Nat.zero_le _) ⟨⟨hrm.1, hrm.2.1⟩, (by show rm.frames + 1 ≤ 12; omega), (by show 8 + (2 + 11) + rm.locals ≤ 434; omega)⟩ hroom dL_law_1225 (fun H locs hP hD hS => ?_)
  refine lv_istore (lv' := [(6, .int r), (0, .ref b), (1, .ref (ad 70)), (2, .ref (ad' 80)), (3, .ref o), (4, .int (nI i)), (5, .int (nI k))]) C.hx C.hb dL_law_1228 hl (by decide) rfl (fun ls hl => ?_)
  have hl : lv_has ls 7 [(0, .ref b), (1, .ref (ad 70)), (2, .ref (ad' 80)), (3, .ref o), (4, .int (nI i)), (5, .int (nI k)), (6, .int r)] := lv_sub hl [1, 2, 3, 4, 5, 6, 0] rfl
  refine q_tail C h4 hk hf0 hP hD hS hl ⟨Nat.le_of_ble_eq_true rfl, Nat.le_of_ble_eq_true rfl⟩ hroom dL_law_1230 dL_law_1231 dL_law_1234 dL_law_1236 dL_law_1241 dL_law_1243 dL_law_1246 dL_law_1247 dL_law_1248 dL_law_1249 dL_law_1251 dL_law_1252 dL_law_1253 (fun H locs hP hD hS => ?_)
  refine lv_goto (tgt := 1889) C.hx C.hb dL_law_1258 (by decide) ?_
  exact kk f2 g2 z2 g3 z3 H locs ls hR2 hP hD hS (lv_sub hl [0, 1, 2, 3, 4] rfl)
set_option maxHeartbeats 4000000 in
set_option maxRecDepth 100000 in
theorem lw_c_person {p : Program} {l : Launch} {e : Env} {s : State} {m : MethodId} {below : List Frame} {meth : Method} {c : Code} {b L : Nat} {xs : Nat → Int32} {D : va_G} {cA cL : ClassId} {ad ad' : Nat → Nat} {o i cells slots : Nat} {Q : State → Prop} {H : Heap} {locs : List Loc} {ls : Array Slot} {f : Nat → Int64} {g g' : Nat → Nat → Int32} {z z' : Nat → Nat} (C : lw_C p l s m meth c b L xs D cA cL) (hi : i + 4 < L) (hroom : cells + 1 ≤ 606944 ∧ slots + 6 ≤ 7275272) (hR : rRel g z g' z') (hP : va_P D vwCl (lwW cA cL ad ad' o f g z g' z') H) (hD : va_D (lwA s) (lwW cA cL ad ad' o f g z g' z')) (hS : va_S (lwA s) s.heap H locs) (hl : lv_has ls 7 [(0, .ref b), (1, .ref (ad 70)), (2, .ref (ad' 80)), (3, .ref o), (4, .int (nI i))]) (kk : lw_N p l e s m below meth c b D cA cL ad ad' o i cells slots Q) : W p l e room_1 s m #[Value.ref b] below meth c H locs cells slots Q (F0 m 1261 ls []) := by
  obtain ⟨k, r, f2, g2, z2, g3, z3, rm, hk, hw, hrm, hm, h4, hf0, hb0, hR2⟩ := st_person l C.htr D cA cL ad ad' o f g z g' z' hR (xs (i + 1))
  refine lv_aload_n C.hx C.hb dL_law_1261 rfl (lv_at hl 1 rfl) ?_
  refine q_scr C 1 hi (by omega) hS hl dL_law_1262 dL_law_1263 dL_law_1265 dL_law_1266 dL_law_1267 ?_
  refine lv_aload_n C.hx C.hb dL_law_1268 rfl (lv_at hl 3 rfl) ?_
  refine q_callL (rest := []) (As := [.ref (ad 70), .int (xs (i + 1)), .ref o]) (ws1 := lwW cA cL ad ad' o f2 g2 z2 g' z') C hP hD hS hw k_L_person kl_L_152 [] (mdW cA ad' g' z') rfl rfl (congrArg (List.cons o) ((rlW_adr _ _ _ _).trans (rlW_adr _ _ _ _).symm)) hl rfl rfl (Nat.zero_le _) ⟨Nat.le_of_ble_eq_true rfl, Nat.le_of_ble_eq_true rfl⟩ hroom dL_law_1269 (fun H locs hP hD hS => ?_)
  refine lv_istore (lv' := [(5, .int (nI k)), (0, .ref b), (1, .ref (ad 70)), (2, .ref (ad' 80)), (3, .ref o), (4, .int (nI i))]) C.hx C.hb dL_law_1272 hl (by decide) rfl (fun ls hl => ?_)
  have hl : lv_has ls 7 [(0, .ref b), (1, .ref (ad 70)), (2, .ref (ad' 80)), (3, .ref o), (4, .int (nI i)), (5, .int (nI k))] := lv_sub hl [1, 2, 3, 4, 5, 0] rfl
  refine lv_aload_n C.hx C.hb dL_law_1274 rfl (lv_at hl 2 rfl) ?_
  refine q_scr C 1 hi (by omega) hS hl dL_law_1275 dL_law_1276 dL_law_1278 dL_law_1279 dL_law_1280 ?_
  refine q_callM (rest := []) (As := [.int (xs (i + 1))]) C hP hD hS hm k_X6_person kl_L_154 rfl hl rfl rfl (Nat.zero_le _) ⟨⟨hrm.1, hrm.2.1⟩, (by show rm.frames + 1 ≤ 12; omega), (by show 8 + (2 + 11) + rm.locals ≤ 434; omega)⟩ hroom dL_law_1281 (fun H locs hP hD hS => ?_)
  refine lv_istore (lv' := [(6, .int r), (0, .ref b), (1, .ref (ad 70)), (2, .ref (ad' 80)), (3, .ref o), (4, .int (nI i)), (5, .int (nI k))]) C.hx C.hb dL_law_1284 hl (by decide) rfl (fun ls hl => ?_)
  have hl : lv_has ls 7 [(0, .ref b), (1, .ref (ad 70)), (2, .ref (ad' 80)), (3, .ref o), (4, .int (nI i)), (5, .int (nI k)), (6, .int r)] := lv_sub hl [1, 2, 3, 4, 5, 6, 0] rfl
  refine q_tail C h4 hk hf0 hP hD hS hl ⟨Nat.le_of_ble_eq_true rfl, Nat.le_of_ble_eq_true rfl⟩ hroom dL_law_1286 dL_law_1287 dL_law_1290 dL_law_1292 dL_law_1297 dL_law_1299 dL_law_1302 dL_law_1303 dL_law_1304 dL_law_1305 dL_law_1307 dL_law_1308 dL_law_1309 (fun H locs hP hD hS => ?_)
  refine lv_goto (tgt := 1889) C.hx C.hb dL_law_1314 (by decide) ?_
  exact kk f2 g2 z2 g3 z3 H locs ls hR2 hP hD hS (lv_sub hl [0, 1, 2, 3, 4] rfl)
set_option maxHeartbeats 4000000 in
set_option maxRecDepth 100000 in
theorem lw_c_entry {p : Program} {l : Launch} {e : Env} {s : State} {m : MethodId} {below : List Frame} {meth : Method} {c : Code} {b L : Nat} {xs : Nat → Int32} {D : va_G} {cA cL : ClassId} {ad ad' : Nat → Nat} {o i cells slots : Nat} {Q : State → Prop} {H : Heap} {locs : List Loc} {ls : Array Slot} {f : Nat → Int64} {g g' : Nat → Nat → Int32} {z z' : Nat → Nat} (C : lw_C p l s m meth c b L xs D cA cL) (hi : i + 4 < L) (hroom : cells + 1 ≤ 606944 ∧ slots + 6 ≤ 7275272) (hR : rRel g z g' z') (hP : va_P D vwCl (lwW cA cL ad ad' o f g z g' z') H) (hD : va_D (lwA s) (lwW cA cL ad ad' o f g z g' z')) (hS : va_S (lwA s) s.heap H locs) (hl : lv_has ls 7 [(0, .ref b), (1, .ref (ad 70)), (2, .ref (ad' 80)), (3, .ref o), (4, .int (nI i))]) (kk : lw_N p l e s m below meth c b D cA cL ad ad' o i cells slots Q) : W p l e room_1 s m #[Value.ref b] below meth c H locs cells slots Q (F0 m 1317 ls []) := by
  obtain ⟨k, r, f2, g2, z2, g3, z3, rm, hk, hw, hrm, hm, h4, hf0, hb0, hR2⟩ := st_entry l C.htr D cA cL ad ad' o f g z g' z' hR (xs (i + 1))
  refine lv_aload_n C.hx C.hb dL_law_1317 rfl (lv_at hl 1 rfl) ?_
  refine q_scr C 1 hi (by omega) hS hl dL_law_1318 dL_law_1319 dL_law_1321 dL_law_1322 dL_law_1323 ?_
  refine lv_aload_n C.hx C.hb dL_law_1324 rfl (lv_at hl 3 rfl) ?_
  refine q_callL (rest := []) (As := [.ref (ad 70), .int (xs (i + 1)), .ref o]) (ws1 := lwW cA cL ad ad' o f2 g2 z2 g' z') C hP hD hS hw k_L_entry kl_L_155 [] (mdW cA ad' g' z') rfl rfl (congrArg (List.cons o) ((rlW_adr _ _ _ _).trans (rlW_adr _ _ _ _).symm)) hl rfl rfl (Nat.zero_le _) ⟨Nat.le_of_ble_eq_true rfl, Nat.le_of_ble_eq_true rfl⟩ hroom dL_law_1325 (fun H locs hP hD hS => ?_)
  refine lv_istore (lv' := [(5, .int (nI k)), (0, .ref b), (1, .ref (ad 70)), (2, .ref (ad' 80)), (3, .ref o), (4, .int (nI i))]) C.hx C.hb dL_law_1328 hl (by decide) rfl (fun ls hl => ?_)
  have hl : lv_has ls 7 [(0, .ref b), (1, .ref (ad 70)), (2, .ref (ad' 80)), (3, .ref o), (4, .int (nI i)), (5, .int (nI k))] := lv_sub hl [1, 2, 3, 4, 5, 0] rfl
  refine lv_aload_n C.hx C.hb dL_law_1330 rfl (lv_at hl 2 rfl) ?_
  refine q_scr C 1 hi (by omega) hS hl dL_law_1331 dL_law_1332 dL_law_1334 dL_law_1335 dL_law_1336 ?_
  refine q_callM (rest := []) (As := [.int (xs (i + 1))]) C hP hD hS hm k_X6_entry kl_L_157 rfl hl rfl rfl (Nat.zero_le _) ⟨⟨hrm.1, hrm.2.1⟩, (by show rm.frames + 1 ≤ 12; omega), (by show 8 + (2 + 11) + rm.locals ≤ 434; omega)⟩ hroom dL_law_1337 (fun H locs hP hD hS => ?_)
  refine lv_istore (lv' := [(6, .int r), (0, .ref b), (1, .ref (ad 70)), (2, .ref (ad' 80)), (3, .ref o), (4, .int (nI i)), (5, .int (nI k))]) C.hx C.hb dL_law_1340 hl (by decide) rfl (fun ls hl => ?_)
  have hl : lv_has ls 7 [(0, .ref b), (1, .ref (ad 70)), (2, .ref (ad' 80)), (3, .ref o), (4, .int (nI i)), (5, .int (nI k)), (6, .int r)] := lv_sub hl [1, 2, 3, 4, 5, 6, 0] rfl
  refine q_tail C h4 hk hf0 hP hD hS hl ⟨Nat.le_of_ble_eq_true rfl, Nat.le_of_ble_eq_true rfl⟩ hroom dL_law_1342 dL_law_1343 dL_law_1346 dL_law_1348 dL_law_1353 dL_law_1355 dL_law_1358 dL_law_1359 dL_law_1360 dL_law_1361 dL_law_1363 dL_law_1364 dL_law_1365 (fun H locs hP hD hS => ?_)
  refine lv_goto (tgt := 1889) C.hx C.hb dL_law_1370 (by decide) ?_
  exact kk f2 g2 z2 g3 z3 H locs ls hR2 hP hD hS (lv_sub hl [0, 1, 2, 3, 4] rfl)
set_option maxHeartbeats 4000000 in
set_option maxRecDepth 100000 in
theorem lw_c_size {p : Program} {l : Launch} {e : Env} {s : State} {m : MethodId} {below : List Frame} {meth : Method} {c : Code} {b L : Nat} {xs : Nat → Int32} {D : va_G} {cA cL : ClassId} {ad ad' : Nat → Nat} {o i cells slots : Nat} {Q : State → Prop} {H : Heap} {locs : List Loc} {ls : Array Slot} {f : Nat → Int64} {g g' : Nat → Nat → Int32} {z z' : Nat → Nat} (C : lw_C p l s m meth c b L xs D cA cL) (hi : i + 4 < L) (hroom : cells + 1 ≤ 606944 ∧ slots + 6 ≤ 7275272) (hR : rRel g z g' z') (hP : va_P D vwCl (lwW cA cL ad ad' o f g z g' z') H) (hD : va_D (lwA s) (lwW cA cL ad ad' o f g z g' z')) (hS : va_S (lwA s) s.heap H locs) (hl : lv_has ls 7 [(0, .ref b), (1, .ref (ad 70)), (2, .ref (ad' 80)), (3, .ref o), (4, .int (nI i))]) (kk : lw_N p l e s m below meth c b D cA cL ad ad' o i cells slots Q) : W p l e room_1 s m #[Value.ref b] below meth c H locs cells slots Q (F0 m 1373 ls []) := by
  obtain ⟨k, r, f2, g2, z2, g3, z3, rm, hk, hw, hrm, hm, h4, hf0, hb0, hR2⟩ := st_size l C.htr D cA cL ad ad' o f g z g' z' hR (xs (i + 1))
  refine lv_aload_n C.hx C.hb dL_law_1373 rfl (lv_at hl 1 rfl) ?_
  refine q_scr C 1 hi (by omega) hS hl dL_law_1374 dL_law_1375 dL_law_1377 dL_law_1378 dL_law_1379 ?_
  refine lv_aload_n C.hx C.hb dL_law_1380 rfl (lv_at hl 3 rfl) ?_
  refine q_callL (rest := []) (As := [.ref (ad 70), .int (xs (i + 1)), .ref o]) (ws1 := lwW cA cL ad ad' o f2 g2 z2 g' z') C hP hD hS hw k_L_size kl_L_158 [] (mdW cA ad' g' z') rfl rfl (congrArg (List.cons o) ((rlW_adr _ _ _ _).trans (rlW_adr _ _ _ _).symm)) hl rfl rfl (Nat.zero_le _) ⟨Nat.le_of_ble_eq_true rfl, Nat.le_of_ble_eq_true rfl⟩ hroom dL_law_1381 (fun H locs hP hD hS => ?_)
  refine lv_istore (lv' := [(5, .int (nI k)), (0, .ref b), (1, .ref (ad 70)), (2, .ref (ad' 80)), (3, .ref o), (4, .int (nI i))]) C.hx C.hb dL_law_1384 hl (by decide) rfl (fun ls hl => ?_)
  have hl : lv_has ls 7 [(0, .ref b), (1, .ref (ad 70)), (2, .ref (ad' 80)), (3, .ref o), (4, .int (nI i)), (5, .int (nI k))] := lv_sub hl [1, 2, 3, 4, 5, 0] rfl
  refine lv_aload_n C.hx C.hb dL_law_1386 rfl (lv_at hl 2 rfl) ?_
  refine q_scr C 1 hi (by omega) hS hl dL_law_1387 dL_law_1388 dL_law_1390 dL_law_1391 dL_law_1392 ?_
  refine q_callM (rest := []) (As := [.int (xs (i + 1))]) C hP hD hS hm k_X6_size kl_L_160 rfl hl rfl rfl (Nat.zero_le _) ⟨⟨hrm.1, hrm.2.1⟩, (by show rm.frames + 1 ≤ 12; omega), (by show 8 + (2 + 11) + rm.locals ≤ 434; omega)⟩ hroom dL_law_1393 (fun H locs hP hD hS => ?_)
  refine lv_istore (lv' := [(6, .int r), (0, .ref b), (1, .ref (ad 70)), (2, .ref (ad' 80)), (3, .ref o), (4, .int (nI i)), (5, .int (nI k))]) C.hx C.hb dL_law_1396 hl (by decide) rfl (fun ls hl => ?_)
  have hl : lv_has ls 7 [(0, .ref b), (1, .ref (ad 70)), (2, .ref (ad' 80)), (3, .ref o), (4, .int (nI i)), (5, .int (nI k)), (6, .int r)] := lv_sub hl [1, 2, 3, 4, 5, 6, 0] rfl
  refine q_tail C h4 hk hf0 hP hD hS hl ⟨Nat.le_of_ble_eq_true rfl, Nat.le_of_ble_eq_true rfl⟩ hroom dL_law_1398 dL_law_1399 dL_law_1402 dL_law_1404 dL_law_1409 dL_law_1411 dL_law_1414 dL_law_1415 dL_law_1416 dL_law_1417 dL_law_1419 dL_law_1420 dL_law_1421 (fun H locs hP hD hS => ?_)
  refine lv_goto (tgt := 1889) C.hx C.hb dL_law_1426 (by decide) ?_
  exact kk f2 g2 z2 g3 z3 H locs ls hR2 hP hD hS (lv_sub hl [0, 1, 2, 3, 4] rfl)
set_option maxHeartbeats 4000000 in
set_option maxRecDepth 100000 in
theorem lw_c_careerAt {p : Program} {l : Launch} {e : Env} {s : State} {m : MethodId} {below : List Frame} {meth : Method} {c : Code} {b L : Nat} {xs : Nat → Int32} {D : va_G} {cA cL : ClassId} {ad ad' : Nat → Nat} {o i cells slots : Nat} {Q : State → Prop} {H : Heap} {locs : List Loc} {ls : Array Slot} {f : Nat → Int64} {g g' : Nat → Nat → Int32} {z z' : Nat → Nat} (C : lw_C p l s m meth c b L xs D cA cL) (hi : i + 4 < L) (hroom : cells + 1 ≤ 606944 ∧ slots + 6 ≤ 7275272) (hR : rRel g z g' z') (hP : va_P D vwCl (lwW cA cL ad ad' o f g z g' z') H) (hD : va_D (lwA s) (lwW cA cL ad ad' o f g z g' z')) (hS : va_S (lwA s) s.heap H locs) (hl : lv_has ls 7 [(0, .ref b), (1, .ref (ad 70)), (2, .ref (ad' 80)), (3, .ref o), (4, .int (nI i))]) (kk : lw_N p l e s m below meth c b D cA cL ad ad' o i cells slots Q) : W p l e room_1 s m #[Value.ref b] below meth c H locs cells slots Q (F0 m 1429 ls []) := by
  obtain ⟨k, r, f2, g2, z2, g3, z3, rm, hk, hw, hrm, hm, h4, hf0, hb0, hR2⟩ := st_careerAt l C.htr D cA cL ad ad' o f g z g' z' hR (xs (i + 1)) (xs (i + 2))
  refine lv_aload_n C.hx C.hb dL_law_1429 rfl (lv_at hl 1 rfl) ?_
  refine q_scr C 1 hi (by omega) hS hl dL_law_1430 dL_law_1431 dL_law_1433 dL_law_1434 dL_law_1435 ?_
  refine q_scr C 2 hi (by omega) hS hl dL_law_1436 dL_law_1437 dL_law_1439 dL_law_1440 dL_law_1441 ?_
  refine lv_aload_n C.hx C.hb dL_law_1442 rfl (lv_at hl 3 rfl) ?_
  refine q_callL (rest := []) (As := [.ref (ad 70), .int (xs (i + 1)), .int (xs (i + 2)), .ref o]) (ws1 := lwW cA cL ad ad' o f2 g2 z2 g' z') C hP hD hS hw k_L_careerAt kl_L_161 [] (mdW cA ad' g' z') rfl rfl (congrArg (List.cons o) ((rlW_adr _ _ _ _).trans (rlW_adr _ _ _ _).symm)) hl rfl rfl (Nat.zero_le _) ⟨Nat.le_of_ble_eq_true rfl, Nat.le_of_ble_eq_true rfl⟩ hroom dL_law_1443 (fun H locs hP hD hS => ?_)
  refine lv_istore (lv' := [(5, .int (nI k)), (0, .ref b), (1, .ref (ad 70)), (2, .ref (ad' 80)), (3, .ref o), (4, .int (nI i))]) C.hx C.hb dL_law_1446 hl (by decide) rfl (fun ls hl => ?_)
  have hl : lv_has ls 7 [(0, .ref b), (1, .ref (ad 70)), (2, .ref (ad' 80)), (3, .ref o), (4, .int (nI i)), (5, .int (nI k))] := lv_sub hl [1, 2, 3, 4, 5, 0] rfl
  refine lv_aload_n C.hx C.hb dL_law_1448 rfl (lv_at hl 2 rfl) ?_
  refine q_scr C 1 hi (by omega) hS hl dL_law_1449 dL_law_1450 dL_law_1452 dL_law_1453 dL_law_1454 ?_
  refine q_scr C 2 hi (by omega) hS hl dL_law_1455 dL_law_1456 dL_law_1458 dL_law_1459 dL_law_1460 ?_
  refine q_callM (rest := []) (As := [.int (xs (i + 1)), .int (xs (i + 2))]) C hP hD hS hm k_X6_careerAt kl_L_163 rfl hl rfl rfl (Nat.zero_le _) ⟨⟨hrm.1, hrm.2.1⟩, (by show rm.frames + 1 ≤ 12; omega), (by show 8 + (3 + 11) + rm.locals ≤ 434; omega)⟩ hroom dL_law_1461 (fun H locs hP hD hS => ?_)
  refine lv_istore (lv' := [(6, .int r), (0, .ref b), (1, .ref (ad 70)), (2, .ref (ad' 80)), (3, .ref o), (4, .int (nI i)), (5, .int (nI k))]) C.hx C.hb dL_law_1464 hl (by decide) rfl (fun ls hl => ?_)
  have hl : lv_has ls 7 [(0, .ref b), (1, .ref (ad 70)), (2, .ref (ad' 80)), (3, .ref o), (4, .int (nI i)), (5, .int (nI k)), (6, .int r)] := lv_sub hl [1, 2, 3, 4, 5, 6, 0] rfl
  refine q_tail C h4 hk hf0 hP hD hS hl ⟨Nat.le_of_ble_eq_true rfl, Nat.le_of_ble_eq_true rfl⟩ hroom dL_law_1466 dL_law_1467 dL_law_1470 dL_law_1472 dL_law_1477 dL_law_1479 dL_law_1482 dL_law_1483 dL_law_1484 dL_law_1485 dL_law_1487 dL_law_1488 dL_law_1489 (fun H locs hP hD hS => ?_)
  refine lv_goto (tgt := 1889) C.hx C.hb dL_law_1494 (by decide) ?_
  exact kk f2 g2 z2 g3 z3 H locs ls hR2 hP hD hS (lv_sub hl [0, 1, 2, 3, 4] rfl)
set_option maxHeartbeats 4000000 in
set_option maxRecDepth 100000 in
theorem lw_c_breaches {p : Program} {l : Launch} {e : Env} {s : State} {m : MethodId} {below : List Frame} {meth : Method} {c : Code} {b L : Nat} {xs : Nat → Int32} {D : va_G} {cA cL : ClassId} {ad ad' : Nat → Nat} {o i cells slots : Nat} {Q : State → Prop} {H : Heap} {locs : List Loc} {ls : Array Slot} {f : Nat → Int64} {g g' : Nat → Nat → Int32} {z z' : Nat → Nat} (C : lw_C p l s m meth c b L xs D cA cL) (hi : i + 4 < L) (hroom : cells + 1 ≤ 606944 ∧ slots + 6 ≤ 7275272) (hR : rRel g z g' z') (hP : va_P D vwCl (lwW cA cL ad ad' o f g z g' z') H) (hD : va_D (lwA s) (lwW cA cL ad ad' o f g z g' z')) (hS : va_S (lwA s) s.heap H locs) (hl : lv_has ls 7 [(0, .ref b), (1, .ref (ad 70)), (2, .ref (ad' 80)), (3, .ref o), (4, .int (nI i))]) (kk : lw_N p l e s m below meth c b D cA cL ad ad' o i cells slots Q) : W p l e room_1 s m #[Value.ref b] below meth c H locs cells slots Q (F0 m 1497 ls []) := by
  obtain ⟨k, r, f2, g2, z2, g3, z3, rm, hk, hw, hrm, hm, h4, hf0, hb0, hR2⟩ := st_breaches l C.htr D cA cL ad ad' o f g z g' z' hR (xs (i + 1))
  refine lv_aload_n C.hx C.hb dL_law_1497 rfl (lv_at hl 1 rfl) ?_
  refine q_scr C 1 hi (by omega) hS hl dL_law_1498 dL_law_1499 dL_law_1501 dL_law_1502 dL_law_1503 ?_
  refine lv_aload_n C.hx C.hb dL_law_1504 rfl (lv_at hl 3 rfl) ?_
  refine q_callL (rest := []) (As := [.ref (ad 70), .int (xs (i + 1)), .ref o]) (ws1 := lwW cA cL ad ad' o f2 g2 z2 g' z') C hP hD hS hw k_L_breaches kl_L_164 [] (mdW cA ad' g' z') rfl rfl (congrArg (List.cons o) ((rlW_adr _ _ _ _).trans (rlW_adr _ _ _ _).symm)) hl rfl rfl (Nat.zero_le _) ⟨Nat.le_of_ble_eq_true rfl, Nat.le_of_ble_eq_true rfl⟩ hroom dL_law_1505 (fun H locs hP hD hS => ?_)
  refine lv_istore (lv' := [(5, .int (nI k)), (0, .ref b), (1, .ref (ad 70)), (2, .ref (ad' 80)), (3, .ref o), (4, .int (nI i))]) C.hx C.hb dL_law_1508 hl (by decide) rfl (fun ls hl => ?_)
  have hl : lv_has ls 7 [(0, .ref b), (1, .ref (ad 70)), (2, .ref (ad' 80)), (3, .ref o), (4, .int (nI i)), (5, .int (nI k))] := lv_sub hl [1, 2, 3, 4, 5, 0] rfl
  refine lv_aload_n C.hx C.hb dL_law_1510 rfl (lv_at hl 2 rfl) ?_
  refine q_scr C 1 hi (by omega) hS hl dL_law_1511 dL_law_1512 dL_law_1514 dL_law_1515 dL_law_1516 ?_
  refine q_callM (rest := []) (As := [.int (xs (i + 1))]) C hP hD hS hm k_X6_breaches kl_L_166 rfl hl rfl rfl (Nat.zero_le _) ⟨⟨hrm.1, hrm.2.1⟩, (by show rm.frames + 1 ≤ 12; omega), (by show 8 + (6 + 11) + rm.locals ≤ 434; omega)⟩ hroom dL_law_1517 (fun H locs hP hD hS => ?_)
  refine lv_istore (lv' := [(6, .int r), (0, .ref b), (1, .ref (ad 70)), (2, .ref (ad' 80)), (3, .ref o), (4, .int (nI i)), (5, .int (nI k))]) C.hx C.hb dL_law_1520 hl (by decide) rfl (fun ls hl => ?_)
  have hl : lv_has ls 7 [(0, .ref b), (1, .ref (ad 70)), (2, .ref (ad' 80)), (3, .ref o), (4, .int (nI i)), (5, .int (nI k)), (6, .int r)] := lv_sub hl [1, 2, 3, 4, 5, 6, 0] rfl
  refine q_tail C h4 hk hf0 hP hD hS hl ⟨Nat.le_of_ble_eq_true rfl, Nat.le_of_ble_eq_true rfl⟩ hroom dL_law_1522 dL_law_1523 dL_law_1526 dL_law_1528 dL_law_1533 dL_law_1535 dL_law_1538 dL_law_1539 dL_law_1540 dL_law_1541 dL_law_1543 dL_law_1544 dL_law_1545 (fun H locs hP hD hS => ?_)
  refine lv_goto (tgt := 1889) C.hx C.hb dL_law_1550 (by decide) ?_
  exact kk f2 g2 z2 g3 z3 H locs ls hR2 hP hD hS (lv_sub hl [0, 1, 2, 3, 4] rfl)
set_option maxHeartbeats 4000000 in
set_option maxRecDepth 100000 in
theorem lw_c_kin {p : Program} {l : Launch} {e : Env} {s : State} {m : MethodId} {below : List Frame} {meth : Method} {c : Code} {b L : Nat} {xs : Nat → Int32} {D : va_G} {cA cL : ClassId} {ad ad' : Nat → Nat} {o i cells slots : Nat} {Q : State → Prop} {H : Heap} {locs : List Loc} {ls : Array Slot} {f : Nat → Int64} {g g' : Nat → Nat → Int32} {z z' : Nat → Nat} (C : lw_C p l s m meth c b L xs D cA cL) (hi : i + 4 < L) (hroom : cells + 1 ≤ 606944 ∧ slots + 6 ≤ 7275272) (hR : rRel g z g' z') (hP : va_P D vwCl (lwW cA cL ad ad' o f g z g' z') H) (hD : va_D (lwA s) (lwW cA cL ad ad' o f g z g' z')) (hS : va_S (lwA s) s.heap H locs) (hl : lv_has ls 7 [(0, .ref b), (1, .ref (ad 70)), (2, .ref (ad' 80)), (3, .ref o), (4, .int (nI i))]) (kk : lw_N p l e s m below meth c b D cA cL ad ad' o i cells slots Q) : W p l e room_1 s m #[Value.ref b] below meth c H locs cells slots Q (F0 m 1553 ls []) := by
  obtain ⟨k, r, f2, g2, z2, g3, z3, rm, hk, hw, hrm, hm, h4, hf0, hb0, hR2⟩ := st_kin l C.htr D cA cL ad ad' o f g z g' z' hR (xs (i + 1)) (xs (i + 2))
  refine lv_aload_n C.hx C.hb dL_law_1553 rfl (lv_at hl 1 rfl) ?_
  refine q_scr C 1 hi (by omega) hS hl dL_law_1554 dL_law_1555 dL_law_1557 dL_law_1558 dL_law_1559 ?_
  refine q_scr C 2 hi (by omega) hS hl dL_law_1560 dL_law_1561 dL_law_1563 dL_law_1564 dL_law_1565 ?_
  refine lv_aload_n C.hx C.hb dL_law_1566 rfl (lv_at hl 3 rfl) ?_
  refine q_callL (rest := []) (As := [.ref (ad 70), .int (xs (i + 1)), .int (xs (i + 2)), .ref o]) (ws1 := lwW cA cL ad ad' o f2 g2 z2 g' z') C hP hD hS hw k_L_kin kl_L_167 [] (mdW cA ad' g' z') rfl rfl (congrArg (List.cons o) ((rlW_adr _ _ _ _).trans (rlW_adr _ _ _ _).symm)) hl rfl rfl (Nat.zero_le _) ⟨Nat.le_of_ble_eq_true rfl, Nat.le_of_ble_eq_true rfl⟩ hroom dL_law_1567 (fun H locs hP hD hS => ?_)
  refine lv_istore (lv' := [(5, .int (nI k)), (0, .ref b), (1, .ref (ad 70)), (2, .ref (ad' 80)), (3, .ref o), (4, .int (nI i))]) C.hx C.hb dL_law_1570 hl (by decide) rfl (fun ls hl => ?_)
  have hl : lv_has ls 7 [(0, .ref b), (1, .ref (ad 70)), (2, .ref (ad' 80)), (3, .ref o), (4, .int (nI i)), (5, .int (nI k))] := lv_sub hl [1, 2, 3, 4, 5, 0] rfl
  refine lv_aload_n C.hx C.hb dL_law_1572 rfl (lv_at hl 2 rfl) ?_
  refine q_scr C 1 hi (by omega) hS hl dL_law_1573 dL_law_1574 dL_law_1576 dL_law_1577 dL_law_1578 ?_
  refine q_scr C 2 hi (by omega) hS hl dL_law_1579 dL_law_1580 dL_law_1582 dL_law_1583 dL_law_1584 ?_
  refine q_callM (rest := []) (As := [.int (xs (i + 1)), .int (xs (i + 2))]) C hP hD hS hm k_X6_kin kl_L_169 rfl hl rfl rfl (Nat.zero_le _) ⟨⟨hrm.1, hrm.2.1⟩, (by show rm.frames + 1 ≤ 12; omega), (by show 8 + (4 + 11) + rm.locals ≤ 434; omega)⟩ hroom dL_law_1585 (fun H locs hP hD hS => ?_)
  refine lv_istore (lv' := [(6, .int r), (0, .ref b), (1, .ref (ad 70)), (2, .ref (ad' 80)), (3, .ref o), (4, .int (nI i)), (5, .int (nI k))]) C.hx C.hb dL_law_1588 hl (by decide) rfl (fun ls hl => ?_)
  have hl : lv_has ls 7 [(0, .ref b), (1, .ref (ad 70)), (2, .ref (ad' 80)), (3, .ref o), (4, .int (nI i)), (5, .int (nI k)), (6, .int r)] := lv_sub hl [1, 2, 3, 4, 5, 6, 0] rfl
  refine q_tailb C h4 hk hf0 (hb0 rfl) hP hD hS hl ⟨Nat.le_of_ble_eq_true rfl, Nat.le_of_ble_eq_true rfl⟩ hroom dL_law_1590 dL_law_1591 dL_law_1594 dL_law_1596 dL_law_1601 dL_law_1603 dL_law_1606 dL_law_1607 dL_law_1608 dL_law_1609 dL_law_1611 dL_law_1614 dL_law_1615 dL_law_1618 dL_law_1619 dL_law_1620 (fun H locs hP hD hS => ?_)
  refine lv_goto (tgt := 1889) C.hx C.hb dL_law_1625 (by decide) ?_
  exact kk f2 g2 z2 g3 z3 H locs ls hR2 hP hD hS (lv_sub hl [0, 1, 2, 3, 4] rfl)
set_option maxHeartbeats 4000000 in
set_option maxRecDepth 100000 in
theorem lw_c_degree {p : Program} {l : Launch} {e : Env} {s : State} {m : MethodId} {below : List Frame} {meth : Method} {c : Code} {b L : Nat} {xs : Nat → Int32} {D : va_G} {cA cL : ClassId} {ad ad' : Nat → Nat} {o i cells slots : Nat} {Q : State → Prop} {H : Heap} {locs : List Loc} {ls : Array Slot} {f : Nat → Int64} {g g' : Nat → Nat → Int32} {z z' : Nat → Nat} (C : lw_C p l s m meth c b L xs D cA cL) (hi : i + 4 < L) (hroom : cells + 1 ≤ 606944 ∧ slots + 6 ≤ 7275272) (hR : rRel g z g' z') (hP : va_P D vwCl (lwW cA cL ad ad' o f g z g' z') H) (hD : va_D (lwA s) (lwW cA cL ad ad' o f g z g' z')) (hS : va_S (lwA s) s.heap H locs) (hl : lv_has ls 7 [(0, .ref b), (1, .ref (ad 70)), (2, .ref (ad' 80)), (3, .ref o), (4, .int (nI i))]) (kk : lw_N p l e s m below meth c b D cA cL ad ad' o i cells slots Q) : W p l e room_1 s m #[Value.ref b] below meth c H locs cells slots Q (F0 m 1628 ls []) := by
  obtain ⟨k, r, f2, g2, z2, g3, z3, rm, hk, hw, hrm, hm, h4, hf0, hb0, hR2⟩ := st_degree l C.htr D cA cL ad ad' o f g z g' z' hR (xs (i + 1)) (xs (i + 2))
  refine lv_aload_n C.hx C.hb dL_law_1628 rfl (lv_at hl 1 rfl) ?_
  refine q_scr C 1 hi (by omega) hS hl dL_law_1629 dL_law_1630 dL_law_1632 dL_law_1633 dL_law_1634 ?_
  refine q_scr C 2 hi (by omega) hS hl dL_law_1635 dL_law_1636 dL_law_1638 dL_law_1639 dL_law_1640 ?_
  refine lv_aload_n C.hx C.hb dL_law_1641 rfl (lv_at hl 3 rfl) ?_
  refine q_callL (rest := []) (As := [.ref (ad 70), .int (xs (i + 1)), .int (xs (i + 2)), .ref o]) (ws1 := lwW cA cL ad ad' o f2 g2 z2 g' z') C hP hD hS hw k_L_degree kl_L_170 [] (mdW cA ad' g' z') rfl rfl (congrArg (List.cons o) ((rlW_adr _ _ _ _).trans (rlW_adr _ _ _ _).symm)) hl rfl rfl (Nat.zero_le _) ⟨Nat.le_of_ble_eq_true rfl, Nat.le_of_ble_eq_true rfl⟩ hroom dL_law_1642 (fun H locs hP hD hS => ?_)
  refine lv_istore (lv' := [(5, .int (nI k)), (0, .ref b), (1, .ref (ad 70)), (2, .ref (ad' 80)), (3, .ref o), (4, .int (nI i))]) C.hx C.hb dL_law_1645 hl (by decide) rfl (fun ls hl => ?_)
  have hl : lv_has ls 7 [(0, .ref b), (1, .ref (ad 70)), (2, .ref (ad' 80)), (3, .ref o), (4, .int (nI i)), (5, .int (nI k))] := lv_sub hl [1, 2, 3, 4, 5, 0] rfl
  refine lv_aload_n C.hx C.hb dL_law_1647 rfl (lv_at hl 2 rfl) ?_
  refine q_scr C 1 hi (by omega) hS hl dL_law_1648 dL_law_1649 dL_law_1651 dL_law_1652 dL_law_1653 ?_
  refine q_scr C 2 hi (by omega) hS hl dL_law_1654 dL_law_1655 dL_law_1657 dL_law_1658 dL_law_1659 ?_
  refine q_callM (rest := []) (As := [.int (xs (i + 1)), .int (xs (i + 2))]) C hP hD hS hm k_X6_degree kl_L_172 rfl hl rfl rfl (Nat.zero_le _) ⟨⟨hrm.1, hrm.2.1⟩, (by show rm.frames + 1 ≤ 12; omega), (by show 8 + (6 + 11) + rm.locals ≤ 434; omega)⟩ hroom dL_law_1660 (fun H locs hP hD hS => ?_)
  refine lv_istore (lv' := [(6, .int r), (0, .ref b), (1, .ref (ad 70)), (2, .ref (ad' 80)), (3, .ref o), (4, .int (nI i)), (5, .int (nI k))]) C.hx C.hb dL_law_1663 hl (by decide) rfl (fun ls hl => ?_)
  have hl : lv_has ls 7 [(0, .ref b), (1, .ref (ad 70)), (2, .ref (ad' 80)), (3, .ref o), (4, .int (nI i)), (5, .int (nI k)), (6, .int r)] := lv_sub hl [1, 2, 3, 4, 5, 6, 0] rfl
  refine q_tail C h4 hk hf0 hP hD hS hl ⟨Nat.le_of_ble_eq_true rfl, Nat.le_of_ble_eq_true rfl⟩ hroom dL_law_1665 dL_law_1666 dL_law_1669 dL_law_1671 dL_law_1676 dL_law_1678 dL_law_1681 dL_law_1682 dL_law_1683 dL_law_1684 dL_law_1686 dL_law_1687 dL_law_1688 (fun H locs hP hD hS => ?_)
  refine lv_goto (tgt := 1889) C.hx C.hb dL_law_1693 (by decide) ?_
  exact kk f2 g2 z2 g3 z3 H locs ls hR2 hP hD hS (lv_sub hl [0, 1, 2, 3, 4] rfl)
set_option maxHeartbeats 4000000 in
set_option maxRecDepth 100000 in
theorem lw_c_best {p : Program} {l : Launch} {e : Env} {s : State} {m : MethodId} {below : List Frame} {meth : Method} {c : Code} {b L : Nat} {xs : Nat → Int32} {D : va_G} {cA cL : ClassId} {ad ad' : Nat → Nat} {o i cells slots : Nat} {Q : State → Prop} {H : Heap} {locs : List Loc} {ls : Array Slot} {f : Nat → Int64} {g g' : Nat → Nat → Int32} {z z' : Nat → Nat} (C : lw_C p l s m meth c b L xs D cA cL) (hi : i + 4 < L) (hroom : cells + 1 ≤ 606944 ∧ slots + 6 ≤ 7275272) (hR : rRel g z g' z') (hP : va_P D vwCl (lwW cA cL ad ad' o f g z g' z') H) (hD : va_D (lwA s) (lwW cA cL ad ad' o f g z g' z')) (hS : va_S (lwA s) s.heap H locs) (hl : lv_has ls 7 [(0, .ref b), (1, .ref (ad 70)), (2, .ref (ad' 80)), (3, .ref o), (4, .int (nI i))]) (kk : lw_N p l e s m below meth c b D cA cL ad ad' o i cells slots Q) : W p l e room_1 s m #[Value.ref b] below meth c H locs cells slots Q (F0 m 1696 ls []) := by
  obtain ⟨k, r, f2, g2, z2, g3, z3, rm, hk, hw, hrm, hm, h4, hf0, hb0, hR2⟩ := st_best l C.htr D cA cL ad ad' o f g z g' z' hR (xs (i + 1))
  refine lv_aload_n C.hx C.hb dL_law_1696 rfl (lv_at hl 1 rfl) ?_
  refine q_scr C 1 hi (by omega) hS hl dL_law_1697 dL_law_1698 dL_law_1700 dL_law_1701 dL_law_1702 ?_
  refine lv_aload_n C.hx C.hb dL_law_1703 rfl (lv_at hl 3 rfl) ?_
  refine q_callL (rest := []) (As := [.ref (ad 70), .int (xs (i + 1)), .ref o]) (ws1 := lwW cA cL ad ad' o f2 g2 z2 g' z') C hP hD hS hw k_L_best kl_L_173 [] (mdW cA ad' g' z') rfl rfl (congrArg (List.cons o) ((rlW_adr _ _ _ _).trans (rlW_adr _ _ _ _).symm)) hl rfl rfl (Nat.zero_le _) ⟨Nat.le_of_ble_eq_true rfl, Nat.le_of_ble_eq_true rfl⟩ hroom dL_law_1704 (fun H locs hP hD hS => ?_)
  refine lv_istore (lv' := [(5, .int (nI k)), (0, .ref b), (1, .ref (ad 70)), (2, .ref (ad' 80)), (3, .ref o), (4, .int (nI i))]) C.hx C.hb dL_law_1707 hl (by decide) rfl (fun ls hl => ?_)
  have hl : lv_has ls 7 [(0, .ref b), (1, .ref (ad 70)), (2, .ref (ad' 80)), (3, .ref o), (4, .int (nI i)), (5, .int (nI k))] := lv_sub hl [1, 2, 3, 4, 5, 0] rfl
  refine lv_aload_n C.hx C.hb dL_law_1709 rfl (lv_at hl 2 rfl) ?_
  refine q_scr C 1 hi (by omega) hS hl dL_law_1710 dL_law_1711 dL_law_1713 dL_law_1714 dL_law_1715 ?_
  refine q_callM (rest := []) (As := [.int (xs (i + 1))]) C hP hD hS hm k_X6_best kl_L_175 rfl hl rfl rfl (Nat.zero_le _) ⟨⟨hrm.1, hrm.2.1⟩, (by show rm.frames + 1 ≤ 12; omega), (by show 8 + (2 + 11) + rm.locals ≤ 434; omega)⟩ hroom dL_law_1716 (fun H locs hP hD hS => ?_)
  refine lv_istore (lv' := [(6, .int r), (0, .ref b), (1, .ref (ad 70)), (2, .ref (ad' 80)), (3, .ref o), (4, .int (nI i)), (5, .int (nI k))]) C.hx C.hb dL_law_1719 hl (by decide) rfl (fun ls hl => ?_)
  have hl : lv_has ls 7 [(0, .ref b), (1, .ref (ad 70)), (2, .ref (ad' 80)), (3, .ref o), (4, .int (nI i)), (5, .int (nI k)), (6, .int r)] := lv_sub hl [1, 2, 3, 4, 5, 6, 0] rfl
  refine q_tail C h4 hk hf0 hP hD hS hl ⟨Nat.le_of_ble_eq_true rfl, Nat.le_of_ble_eq_true rfl⟩ hroom dL_law_1721 dL_law_1722 dL_law_1725 dL_law_1727 dL_law_1732 dL_law_1734 dL_law_1737 dL_law_1738 dL_law_1739 dL_law_1740 dL_law_1742 dL_law_1743 dL_law_1744 (fun H locs hP hD hS => ?_)
  refine lv_goto (tgt := 1889) C.hx C.hb dL_law_1749 (by decide) ?_
  exact kk f2 g2 z2 g3 z3 H locs ls hR2 hP hD hS (lv_sub hl [0, 1, 2, 3, 4] rfl)
set_option maxHeartbeats 4000000 in
set_option maxRecDepth 100000 in
theorem lw_c_bestAnew {p : Program} {l : Launch} {e : Env} {s : State} {m : MethodId} {below : List Frame} {meth : Method} {c : Code} {b L : Nat} {xs : Nat → Int32} {D : va_G} {cA cL : ClassId} {ad ad' : Nat → Nat} {o i cells slots : Nat} {Q : State → Prop} {H : Heap} {locs : List Loc} {ls : Array Slot} {f : Nat → Int64} {g g' : Nat → Nat → Int32} {z z' : Nat → Nat} (C : lw_C p l s m meth c b L xs D cA cL) (hi : i + 4 < L) (hroom : cells + 1 ≤ 606944 ∧ slots + 6 ≤ 7275272) (hR : rRel g z g' z') (hP : va_P D vwCl (lwW cA cL ad ad' o f g z g' z') H) (hD : va_D (lwA s) (lwW cA cL ad ad' o f g z g' z')) (hS : va_S (lwA s) s.heap H locs) (hl : lv_has ls 7 [(0, .ref b), (1, .ref (ad 70)), (2, .ref (ad' 80)), (3, .ref o), (4, .int (nI i))]) (kk : lw_N p l e s m below meth c b D cA cL ad ad' o i cells slots Q) : W p l e room_1 s m #[Value.ref b] below meth c H locs cells slots Q (F0 m 1752 ls []) := by
  obtain ⟨k, r, f2, g2, z2, g3, z3, rm, hk, hw, hrm, hm, h4, hf0, hb0, hR2⟩ := st_bestAnew l C.htr D cA cL ad ad' o f g z g' z' hR (xs (i + 1))
  refine lv_aload_n C.hx C.hb dL_law_1752 rfl (lv_at hl 1 rfl) ?_
  refine q_scr C 1 hi (by omega) hS hl dL_law_1753 dL_law_1754 dL_law_1756 dL_law_1757 dL_law_1758 ?_
  refine lv_aload_n C.hx C.hb dL_law_1759 rfl (lv_at hl 3 rfl) ?_
  refine q_callL (rest := []) (As := [.ref (ad 70), .int (xs (i + 1)), .ref o]) (ws1 := lwW cA cL ad ad' o f2 g2 z2 g' z') C hP hD hS hw k_L_bestAnew kl_L_176 [] (mdW cA ad' g' z') rfl rfl (congrArg (List.cons o) ((rlW_adr _ _ _ _).trans (rlW_adr _ _ _ _).symm)) hl rfl rfl (Nat.zero_le _) ⟨Nat.le_of_ble_eq_true rfl, Nat.le_of_ble_eq_true rfl⟩ hroom dL_law_1760 (fun H locs hP hD hS => ?_)
  refine lv_istore (lv' := [(5, .int (nI k)), (0, .ref b), (1, .ref (ad 70)), (2, .ref (ad' 80)), (3, .ref o), (4, .int (nI i))]) C.hx C.hb dL_law_1763 hl (by decide) rfl (fun ls hl => ?_)
  have hl : lv_has ls 7 [(0, .ref b), (1, .ref (ad 70)), (2, .ref (ad' 80)), (3, .ref o), (4, .int (nI i)), (5, .int (nI k))] := lv_sub hl [1, 2, 3, 4, 5, 0] rfl
  refine lv_aload_n C.hx C.hb dL_law_1765 rfl (lv_at hl 2 rfl) ?_
  refine q_scr C 1 hi (by omega) hS hl dL_law_1766 dL_law_1767 dL_law_1769 dL_law_1770 dL_law_1771 ?_
  refine q_callM (rest := []) (As := [.int (xs (i + 1))]) C hP hD hS hm k_X6_bestAnew kl_L_178 rfl hl rfl rfl (Nat.zero_le _) ⟨⟨hrm.1, hrm.2.1⟩, (by show rm.frames + 1 ≤ 12; omega), (by show 8 + (2 + 11) + rm.locals ≤ 434; omega)⟩ hroom dL_law_1772 (fun H locs hP hD hS => ?_)
  refine lv_istore (lv' := [(6, .int r), (0, .ref b), (1, .ref (ad 70)), (2, .ref (ad' 80)), (3, .ref o), (4, .int (nI i)), (5, .int (nI k))]) C.hx C.hb dL_law_1775 hl (by decide) rfl (fun ls hl => ?_)
  have hl : lv_has ls 7 [(0, .ref b), (1, .ref (ad 70)), (2, .ref (ad' 80)), (3, .ref o), (4, .int (nI i)), (5, .int (nI k)), (6, .int r)] := lv_sub hl [1, 2, 3, 4, 5, 6, 0] rfl
  refine q_tail C h4 hk hf0 hP hD hS hl ⟨Nat.le_of_ble_eq_true rfl, Nat.le_of_ble_eq_true rfl⟩ hroom dL_law_1777 dL_law_1778 dL_law_1781 dL_law_1783 dL_law_1788 dL_law_1790 dL_law_1793 dL_law_1794 dL_law_1795 dL_law_1796 dL_law_1798 dL_law_1799 dL_law_1800 (fun H locs hP hD hS => ?_)
  refine lv_goto (tgt := 1889) C.hx C.hb dL_law_1805 (by decide) ?_
  exact kk f2 g2 z2 g3 z3 H locs ls hR2 hP hD hS (lv_sub hl [0, 1, 2, 3, 4] rfl)
set_option maxHeartbeats 4000000 in
set_option maxRecDepth 100000 in
theorem lw_c_rival {p : Program} {l : Launch} {e : Env} {s : State} {m : MethodId} {below : List Frame} {meth : Method} {c : Code} {b L : Nat} {xs : Nat → Int32} {D : va_G} {cA cL : ClassId} {ad ad' : Nat → Nat} {o i cells slots : Nat} {Q : State → Prop} {H : Heap} {locs : List Loc} {ls : Array Slot} {f : Nat → Int64} {g g' : Nat → Nat → Int32} {z z' : Nat → Nat} (C : lw_C p l s m meth c b L xs D cA cL) (hi : i + 4 < L) (hroom : cells + 1 ≤ 606944 ∧ slots + 6 ≤ 7275272) (hR : rRel g z g' z') (hP : va_P D vwCl (lwW cA cL ad ad' o f g z g' z') H) (hD : va_D (lwA s) (lwW cA cL ad ad' o f g z g' z')) (hS : va_S (lwA s) s.heap H locs) (hl : lv_has ls 7 [(0, .ref b), (1, .ref (ad 70)), (2, .ref (ad' 80)), (3, .ref o), (4, .int (nI i))]) (kk : lw_N p l e s m below meth c b D cA cL ad ad' o i cells slots Q) : W p l e room_1 s m #[Value.ref b] below meth c H locs cells slots Q (F0 m 1808 ls []) := by
  obtain ⟨k, r, f2, g2, z2, g3, z3, rm, hk, hw, hrm, hm, h4, hf0, hb0, hR2⟩ := st_rival l C.htr D cA cL ad ad' o f g z g' z' hR (xs (i + 1)) (xs (i + 2))
  refine lv_aload_n C.hx C.hb dL_law_1808 rfl (lv_at hl 1 rfl) ?_
  refine q_scr C 1 hi (by omega) hS hl dL_law_1809 dL_law_1810 dL_law_1812 dL_law_1813 dL_law_1814 ?_
  refine q_scr C 2 hi (by omega) hS hl dL_law_1815 dL_law_1816 dL_law_1818 dL_law_1819 dL_law_1820 ?_
  refine lv_aload_n C.hx C.hb dL_law_1821 rfl (lv_at hl 3 rfl) ?_
  refine q_callL (rest := []) (As := [.ref (ad 70), .int (xs (i + 1)), .int (xs (i + 2)), .ref o]) (ws1 := lwW cA cL ad ad' o f2 g2 z2 g' z') C hP hD hS hw k_L_rival kl_L_179 [] (mdW cA ad' g' z') rfl rfl (congrArg (List.cons o) ((rlW_adr _ _ _ _).trans (rlW_adr _ _ _ _).symm)) hl rfl rfl (Nat.zero_le _) ⟨Nat.le_of_ble_eq_true rfl, Nat.le_of_ble_eq_true rfl⟩ hroom dL_law_1822 (fun H locs hP hD hS => ?_)
  refine lv_istore (lv' := [(5, .int (nI k)), (0, .ref b), (1, .ref (ad 70)), (2, .ref (ad' 80)), (3, .ref o), (4, .int (nI i))]) C.hx C.hb dL_law_1825 hl (by decide) rfl (fun ls hl => ?_)
  have hl : lv_has ls 7 [(0, .ref b), (1, .ref (ad 70)), (2, .ref (ad' 80)), (3, .ref o), (4, .int (nI i)), (5, .int (nI k))] := lv_sub hl [1, 2, 3, 4, 5, 0] rfl
  refine lv_aload_n C.hx C.hb dL_law_1827 rfl (lv_at hl 2 rfl) ?_
  refine q_scr C 1 hi (by omega) hS hl dL_law_1828 dL_law_1829 dL_law_1831 dL_law_1832 dL_law_1833 ?_
  refine q_scr C 2 hi (by omega) hS hl dL_law_1834 dL_law_1835 dL_law_1837 dL_law_1838 dL_law_1839 ?_
  refine q_callM (rest := []) (As := [.int (xs (i + 1)), .int (xs (i + 2))]) C hP hD hS hm k_X6_rival kl_L_181 rfl hl rfl rfl (Nat.zero_le _) ⟨⟨hrm.1, hrm.2.1⟩, (by show rm.frames + 1 ≤ 12; omega), (by show 8 + (4 + 11) + rm.locals ≤ 434; omega)⟩ hroom dL_law_1840 (fun H locs hP hD hS => ?_)
  refine lv_istore (lv' := [(6, .int r), (0, .ref b), (1, .ref (ad 70)), (2, .ref (ad' 80)), (3, .ref o), (4, .int (nI i)), (5, .int (nI k))]) C.hx C.hb dL_law_1843 hl (by decide) rfl (fun ls hl => ?_)
  have hl : lv_has ls 7 [(0, .ref b), (1, .ref (ad 70)), (2, .ref (ad' 80)), (3, .ref o), (4, .int (nI i)), (5, .int (nI k)), (6, .int r)] := lv_sub hl [1, 2, 3, 4, 5, 6, 0] rfl
  refine q_tail C h4 hk hf0 hP hD hS hl ⟨Nat.le_of_ble_eq_true rfl, Nat.le_of_ble_eq_true rfl⟩ hroom dL_law_1845 dL_law_1846 dL_law_1849 dL_law_1851 dL_law_1856 dL_law_1858 dL_law_1861 dL_law_1862 dL_law_1863 dL_law_1864 dL_law_1866 dL_law_1867 dL_law_1868 (fun H locs hP hD hS => ?_)
  refine lv_goto (tgt := 1889) C.hx C.hb dL_law_1873 (by decide) ?_
  exact kk f2 g2 z2 g3 z3 H locs ls hR2 hP hD hS (lv_sub hl [0, 1, 2, 3, 4] rfl)
set_option maxHeartbeats 4000000 in
set_option maxRecDepth 100000 in
theorem lw_c_differ {p : Program} {l : Launch} {e : Env} {s : State} {m : MethodId} {below : List Frame} {meth : Method} {c : Code} {b L : Nat} {xs : Nat → Int32} {D : va_G} {cA cL : ClassId} {ad ad' : Nat → Nat} {o i cells slots : Nat} {Q : State → Prop} {H : Heap} {locs : List Loc} {ls : Array Slot} {f : Nat → Int64} {g g' : Nat → Nat → Int32} {z z' : Nat → Nat} (C : lw_C p l s m meth c b L xs D cA cL) (hi : i + 4 < L) (hroom : cells + 1 ≤ 606944 ∧ slots + 6 ≤ 7275272) (hR : rRel g z g' z') (hP : va_P D vwCl (lwW cA cL ad ad' o f g z g' z') H) (hD : va_D (lwA s) (lwW cA cL ad ad' o f g z g' z')) (hS : va_S (lwA s) s.heap H locs) (hl : lv_has ls 7 [(0, .ref b), (1, .ref (ad 70)), (2, .ref (ad' 80)), (3, .ref o), (4, .int (nI i))]) (kk : lw_N p l e s m below meth c b D cA cL ad ad' o i cells slots Q) : W p l e room_1 s m #[Value.ref b] below meth c H locs cells slots Q (F0 m 1876 ls []) := by
  have hz0 : z 0 ≤ 16 := hR.2.2.1.2.2.2.2.1
  have hz0' : z' 0 ≤ 16 := by rw [hR.1.1.1]; exact hz0
  refine lv_aload_n C.hx C.hb dL_law_1876 rfl (lv_at hl 1 rfl) ?_
  refine q_callIS (rest := []) (As := []) (ws1 := lwW cA cL ad ad' o f g z g' z') C.hx C.hb C.hml C.hown C.hT (q_kint C.hK) hP hD hS (fun q h => h) (c_X5_differ l D cA ad g z hz0) k_X5_differ kl_L_182 (q0 := 0) (ci := 5) rfl rfl rfl [(o, .inl (cL, 1, .inr (.inl f)))] (mdW cA ad' g' z') rfl rfl rfl hl rfl rfl (Nat.zero_le _) ⟨⟨rfl, rfl⟩, Nat.le_of_ble_eq_true rfl, Nat.le_of_ble_eq_true rfl⟩ (by show cells ≤ 606944 ∧ slots ≤ 7275272; omega) dL_law_1877 (fun H locs hP hD hS => ?_)
  refine lv_aload_n C.hx C.hb dL_law_1880 rfl (lv_at hl 2 rfl) ?_
  refine q_callM (rest := [.int (nI (dfO g (z 0) (z 0)))]) (As := []) C hP hD hS (c_X6_differ l D cA ad' g' z' hz0') k_X6_differ kl_L_185 rfl hl rfl rfl (Nat.le_of_ble_eq_true rfl) ⟨⟨rfl, rfl⟩, Nat.le_of_ble_eq_true rfl, Nat.le_of_ble_eq_true rfl⟩ (by show cells ≤ 606944 ∧ slots ≤ 7275272; omega) dL_law_1881 (fun H locs hP hD hS => ?_)
  refine lv_icmp_eq (tgt := 1889) C.hx C.hb dL_law_1884 (by decide) (fun _ => ?_) (fun h => absurd (congrArg nI (df_ok hR.1).symm) h)
  refine W.widen (k := cells + 1) (n := slots + 6) (by omega) (by omega) ?_
  exact kk f g z g' (zs z' 4 0) H locs ls (rR_4 hR) hP hD hS hl
