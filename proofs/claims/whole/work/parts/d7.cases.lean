/-! THE LAW'S CASES (by program, gend7.py) -/
section Cases
variable {p : Program} {l : Launch} {e : Env} {s : State} {mi : MethodId} {below : List Frame} {meth : Method} {c : Code} {H : Heap} {locs : List Loc} {cells slots : Nat} {Q : State → Prop}
variable {b sa av bs Ln i : Nat} {D : va_G} {dA : Nat → ClassId} {xs : Nat → Int32} {LS : Array Slot} {u : am_U} {S : ST} {L L' : Nat}
/-- a case: from its first instruction to the loop's end -/
def lw_Case (p : Program) (l : Launch) (e : Env) (s : State) (mi : MethodId) (below : List Frame) (meth : Method) (c : Code) (Q : State → Prop) (b sa av bs : Nat) (D : va_G) (dA : Nat → ClassId) (pc : Nat) (LS : Array Slot) (H : Heap) (locs : List Loc) (cells slots : Nat) : Prop :=
  (∀ u' S' L1 L1' H' locs', lw_Inv u' S' L1 L1' → am_At false b sa D dA (Zs b sa av) s (am_emb u') H' locs' → W p l e room_1 s mi #[Value.ref bs] below meth c H' locs' cells slots Q (F0 mi 1226 LS [])) → W p l e room_1 s mi #[Value.ref bs] below meth c H locs cells slots Q (F0 mi pc LS [])

theorem lw_c0 (F : lw_Fx p s mi meth c bs Ln xs) (hbb : bs < b) (A : am_At false b sa D dA (Zs b sa av) s (am_emb u) H locs) (hl : lv_has LS 7 (lw_ls b bs i)) (hi : i + 7 ≤ Ln) (hR : cells ≤ 601024 ∧ slots ≤ 7293034) (I : lw_Inv u S L L') : lw_Case p l e s mi below meth c Q b sa av bs D dA 172 LS H locs cells slots := by
  intro k
  have hx := F.1
  have hb := F.2.1
  obtain ⟨iC, nC, iR, nR, w⟩ := id I
  refine lv_aload_n hx hb d_law_172 rfl (lv_at hl 1 rfl) ?_
  refine lw_el (k := 1) F A hbb hl (by omega) rfl d_law_173 d_law_174 d_law_176 d_law_177 d_law_178 ?_
  refine lw_long (pc2 := 189) F d_law_179 d_law_180 d_law_182 d_law_189 d_law_190 d_law_193 d_law_194 (fun W1 => lw_el (k := 2) F A hbb hl (by omega) rfl d_law_183 d_law_184 d_law_186 d_law_187 d_law_188 W1) ?_
  refine lw_el (k := 3) F A hbb hl (by omega) rfl d_law_195 d_law_196 d_law_198 d_law_199 d_law_200 ?_
  refine lw_long (pc2 := 211) F d_law_201 d_law_202 d_law_204 d_law_211 d_law_212 d_law_215 d_law_216 (fun W1 => lw_el (k := 4) F A hbb hl (by omega) rfl d_law_205 d_law_206 d_law_208 d_law_209 d_law_210 W1) ?_
  refine lw_el (k := 5) F A hbb hl (by omega) rfl d_law_217 d_law_218 d_law_220 d_law_221 d_law_222 ?_
  refine lw_long (pc2 := 234) F d_law_223 d_law_224 d_law_226 d_law_234 d_law_235 d_law_238 d_law_239 (fun W1 => lw_el6 F A hbb hl (by omega) d_law_227 d_law_228 d_law_230 d_law_232 d_law_233 W1) ?_
  refine lw_callV (idx := 21) (z := 116) (a := 0) (ci := 11) (As := [.long (lw_jn (xs (i + 1)) (xs (i + 2))), .long (lw_jn (xs (i + 3)) (xs (i + 4))), .long (lw_jn (xs (i + 5)) (xs (i + 6)))]) (rest := []) F A rfl rfl (by decide +kernel) (List.mem_of_getElem? (i := 630) (by decide +kernel)) (em_obj (show sh 0 11 16 from rfl) (by decide)) rfl (by decide) rfl rfl hl.1 (Nat.le_of_ble_eq_true rfl) d_law_240 ?_ hR
  refine C_feed iC w (fun u1 o1 iC1 => lw_kI (r := (feedS S (lw_jn (xs (i + 1)) (xs (i + 2))) (lw_jn (xs (i + 3)) (xs (i + 4))) (lw_jn (xs (i + 5)) (xs (i + 6)))).2) (fun H1 locs1 A1 => ?_))
  have iR1 := lw_R I o1
  refine lv_aload_n hx hb d_law_243 rfl (lv_at hl 2 rfl) ?_
  refine lw_el (k := 1) F A1 hbb hl (by omega) rfl d_law_244 d_law_245 d_law_247 d_law_248 d_law_249 ?_
  refine lw_long (pc2 := 260) F d_law_250 d_law_251 d_law_253 d_law_260 d_law_261 d_law_264 d_law_265 (fun W1 => lw_el (k := 2) F A1 hbb hl (by omega) rfl d_law_254 d_law_255 d_law_257 d_law_258 d_law_259 W1) ?_
  refine lw_el (k := 3) F A1 hbb hl (by omega) rfl d_law_266 d_law_267 d_law_269 d_law_270 d_law_271 ?_
  refine lw_long (pc2 := 282) F d_law_272 d_law_273 d_law_275 d_law_282 d_law_283 d_law_286 d_law_287 (fun W1 => lw_el (k := 4) F A1 hbb hl (by omega) rfl d_law_276 d_law_277 d_law_279 d_law_280 d_law_281 W1) ?_
  refine lw_el (k := 5) F A1 hbb hl (by omega) rfl d_law_288 d_law_289 d_law_291 d_law_292 d_law_293 ?_
  refine lw_long (pc2 := 305) F d_law_294 d_law_295 d_law_297 d_law_305 d_law_306 d_law_309 d_law_310 (fun W1 => lw_el6 F A1 hbb hl (by omega) d_law_298 d_law_299 d_law_301 d_law_303 d_law_304 W1) ?_
  refine lw_callV (idx := 25) (z := 164) (a := 203) (ci := 12) (As := [.long (lw_jn (xs (i + 1)) (xs (i + 2))), .long (lw_jn (xs (i + 3)) (xs (i + 4))), .long (lw_jn (xs (i + 5)) (xs (i + 6)))]) (rest := [.int (feedS S (lw_jn (xs (i + 1)) (xs (i + 2))) (lw_jn (xs (i + 3)) (xs (i + 4))) (lw_jn (xs (i + 5)) (xs (i + 6)))).2]) F A1 rfl rfl (by decide +kernel) (List.mem_of_getElem? (i := 1595) (by decide +kernel)) (em_obj (show sh 203 12 68 from rfl) (by decide)) rfl (by decide) rfl rfl hl.1 (Nat.le_of_ble_eq_true rfl) d_law_311 ?_ hR
  refine R_feed iR1 w (fun u2 o2 iR2 => lw_kI (r := (feedS S (lw_jn (xs (i + 1)) (xs (i + 2))) (lw_jn (xs (i + 3)) (xs (i + 4))) (lw_jn (xs (i + 5)) (xs (i + 6)))).2) (fun H2 locs2 A2 => ?_))
  refine lv_icmp_eq (tgt := 1226) hx hb d_law_314 rfl (fun _ => ?_) (fun q => absurd rfl q)
  exact k _ _ _ _ _ _ (lw_Inv_of I o1 iC1 o2 iR2 (WS_feed w (lw_jn (xs (i + 1)) (xs (i + 2))) (lw_jn (xs (i + 3)) (xs (i + 4))) (lw_jn (xs (i + 5)) (xs (i + 6)))) rfl) A2
theorem lw_c3 (F : lw_Fx p s mi meth c bs Ln xs) (hbb : bs < b) (A : am_At false b sa D dA (Zs b sa av) s (am_emb u) H locs) (hl : lv_has LS 7 (lw_ls b bs i)) (hi : i + 7 ≤ Ln) (hR : cells ≤ 601024 ∧ slots ≤ 7293034) (I : lw_Inv u S L L') : lw_Case p l e s mi below meth c Q b sa av bs D dA 345 LS H locs cells slots := by
  intro k
  have hx := F.1
  have hb := F.2.1
  obtain ⟨iC, nC, iR, nR, w⟩ := id I
  refine lv_aload_n hx hb d_law_345 rfl (lv_at hl 1 rfl) ?_
  refine lw_el (k := 1) F A hbb hl (by omega) rfl d_law_346 d_law_347 d_law_349 d_law_350 d_law_351 ?_
  refine lw_el (k := 2) F A hbb hl (by omega) rfl d_law_352 d_law_353 d_law_355 d_law_356 d_law_357 ?_
  refine lw_callV (idx := 35) (z := 119) (a := 0) (ci := 11) (As := [.int (xs (i + 1)), .int (xs (i + 2))]) (rest := []) F A rfl rfl (by decide +kernel) (List.mem_of_getElem? (i := 916) (by decide +kernel)) (em_obj (show sh 0 11 16 from rfl) (by decide)) rfl (by decide) rfl rfl hl.1 (Nat.le_of_ble_eq_true rfl) d_law_358 ?_ hR
  refine wC_fact iC w (fun u1 o1 iC1 => lw_kI (r := (factV S.1 (xs (i + 1)) (xs (i + 2)))) (fun H1 locs1 A1 => ?_))
  have iR1 := lw_R I o1
  refine lv_aload_n hx hb d_law_361 rfl (lv_at hl 2 rfl) ?_
  refine lw_el (k := 1) F A1 hbb hl (by omega) rfl d_law_362 d_law_363 d_law_365 d_law_366 d_law_367 ?_
  refine lw_el (k := 2) F A1 hbb hl (by omega) rfl d_law_368 d_law_369 d_law_371 d_law_372 d_law_373 ?_
  refine lw_callV (idx := 38) (z := 214) (a := 203) (ci := 12) (As := [.int (xs (i + 1)), .int (xs (i + 2))]) (rest := [.int (factV S.1 (xs (i + 1)) (xs (i + 2)))]) F A1 rfl rfl (by decide +kernel) (List.mem_of_getElem? (i := 1783) (by decide +kernel)) (em_obj (show sh 203 12 68 from rfl) (by decide)) rfl (by decide) rfl rfl hl.1 (Nat.le_of_ble_eq_true rfl) d_law_374 ?_ hR
  refine wR_fact iR1 w (fun u2 o2 iR2 => lw_kI (r := (factV S.1 (xs (i + 1)) (xs (i + 2)))) (fun H2 locs2 A2 => ?_))
  refine lv_icmp_eq (tgt := 1226) hx hb d_law_377 rfl (fun _ => ?_) (fun q => absurd rfl q)
  exact k _ _ _ _ _ _ (lw_Inv_of I o1 iC1 o2 iR2 w rfl) A2
theorem lw_c4 (F : lw_Fx p s mi meth c bs Ln xs) (hbb : bs < b) (A : am_At false b sa D dA (Zs b sa av) s (am_emb u) H locs) (hl : lv_has LS 7 (lw_ls b bs i)) (hi : i + 7 ≤ Ln) (hR : cells ≤ 601024 ∧ slots ≤ 7293034) (I : lw_Inv u S L L') : lw_Case p l e s mi below meth c Q b sa av bs D dA 382 LS H locs cells slots := by
  intro k
  have hx := F.1
  have hb := F.2.1
  obtain ⟨iC, nC, iR, nR, w⟩ := id I
  refine lv_aload_n hx hb d_law_382 rfl (lv_at hl 1 rfl) ?_
  refine lw_el (k := 1) F A hbb hl (by omega) rfl d_law_383 d_law_384 d_law_386 d_law_387 d_law_388 ?_
  refine lw_el (k := 2) F A hbb hl (by omega) rfl d_law_389 d_law_390 d_law_392 d_law_393 d_law_394 ?_
  refine lw_callV (idx := 39) (z := 120) (a := 0) (ci := 11) (As := [.int (xs (i + 1)), .int (xs (i + 2))]) (rest := []) F A rfl rfl (by decide +kernel) (List.mem_of_getElem? (i := 925) (by decide +kernel)) (em_obj (show sh 0 11 16 from rfl) (by decide)) rfl (by decide) rfl rfl hl.1 (Nat.le_of_ble_eq_true rfl) d_law_395 ?_ hR
  refine wC_page iC w (fun u1 o1 iC1 => lw_kI (r := (pageV S.1 S.2.1.1 (xs (i + 1)) (xs (i + 2)))) (fun H1 locs1 A1 => ?_))
  have iR1 := lw_R I o1
  refine lv_aload_n hx hb d_law_398 rfl (lv_at hl 2 rfl) ?_
  refine lw_el (k := 1) F A1 hbb hl (by omega) rfl d_law_399 d_law_400 d_law_402 d_law_403 d_law_404 ?_
  refine lw_el (k := 2) F A1 hbb hl (by omega) rfl d_law_405 d_law_406 d_law_408 d_law_409 d_law_410 ?_
  refine lw_callV (idx := 42) (z := 215) (a := 203) (ci := 12) (As := [.int (xs (i + 1)), .int (xs (i + 2))]) (rest := [.int (pageV S.1 S.2.1.1 (xs (i + 1)) (xs (i + 2)))]) F A1 rfl rfl (by decide +kernel) (List.mem_of_getElem? (i := 1791) (by decide +kernel)) (em_obj (show sh 203 12 68 from rfl) (by decide)) rfl (by decide) rfl rfl hl.1 (Nat.le_of_ble_eq_true rfl) d_law_411 ?_ hR
  refine wR_page iR1 w (fun u2 o2 iR2 => lw_kI (r := (pageV S.1 S.2.1.1 (xs (i + 1)) (xs (i + 2)))) (fun H2 locs2 A2 => ?_))
  refine lv_icmp_eq (tgt := 1226) hx hb d_law_414 rfl (fun _ => ?_) (fun q => absurd rfl q)
  exact k _ _ _ _ _ _ (lw_Inv_of I o1 iC1 o2 iR2 w rfl) A2
theorem lw_c6 (F : lw_Fx p s mi meth c bs Ln xs) (hbb : bs < b) (A : am_At false b sa D dA (Zs b sa av) s (am_emb u) H locs) (hl : lv_has LS 7 (lw_ls b bs i)) (hi : i + 7 ≤ Ln) (hR : cells ≤ 601024 ∧ slots ≤ 7293034) (I : lw_Inv u S L L') : lw_Case p l e s mi below meth c Q b sa av bs D dA 487 LS H locs cells slots := by
  intro k
  have hx := F.1
  have hb := F.2.1
  obtain ⟨iC, nC, iR, nR, w⟩ := id I
  refine lv_aload_n hx hb d_law_487 rfl (lv_at hl 1 rfl) ?_
  refine lw_el (k := 1) F A hbb hl (by omega) rfl d_law_488 d_law_489 d_law_491 d_law_492 d_law_493 ?_
  refine lw_el (k := 2) F A hbb hl (by omega) rfl d_law_494 d_law_495 d_law_497 d_law_498 d_law_499 ?_
  refine lw_callV (idx := 52) (z := 122) (a := 0) (ci := 11) (As := [.int (xs (i + 1)), .int (xs (i + 2))]) (rest := []) F A rfl rfl (by decide +kernel) (List.mem_of_getElem? (i := 941) (by decide +kernel)) (em_obj (show sh 0 11 16 from rfl) (by decide)) rfl (by decide) rfl rfl hl.1 (Nat.le_of_ble_eq_true rfl) d_law_500 ?_ hR
  refine wC_task iC w (fun u1 o1 iC1 => lw_kI (r := (taskV S.1 S.2.1.1 (xs (i + 1)) (xs (i + 2)))) (fun H1 locs1 A1 => ?_))
  have iR1 := lw_R I o1
  refine lv_aload_n hx hb d_law_503 rfl (lv_at hl 2 rfl) ?_
  refine lw_el (k := 1) F A1 hbb hl (by omega) rfl d_law_504 d_law_505 d_law_507 d_law_508 d_law_509 ?_
  refine lw_el (k := 2) F A1 hbb hl (by omega) rfl d_law_510 d_law_511 d_law_513 d_law_514 d_law_515 ?_
  refine lw_callV (idx := 55) (z := 223) (a := 203) (ci := 12) (As := [.int (xs (i + 1)), .int (xs (i + 2))]) (rest := [.int (taskV S.1 S.2.1.1 (xs (i + 1)) (xs (i + 2)))]) F A1 rfl rfl (by decide +kernel) (List.mem_of_getElem? (i := 1831) (by decide +kernel)) (em_obj (show sh 203 12 68 from rfl) (by decide)) rfl (by decide) rfl rfl hl.1 (Nat.le_of_ble_eq_true rfl) d_law_516 ?_ hR
  refine wR_task iR1 w (fun u2 o2 iR2 => lw_kI (r := (taskV S.1 S.2.1.1 (xs (i + 1)) (xs (i + 2)))) (fun H2 locs2 A2 => ?_))
  refine lv_icmp_eq (tgt := 1226) hx hb d_law_519 rfl (fun _ => ?_) (fun q => absurd rfl q)
  exact k _ _ _ _ _ _ (lw_Inv_of I o1 iC1 o2 iR2 w rfl) A2
theorem lw_c7 (F : lw_Fx p s mi meth c bs Ln xs) (hbb : bs < b) (A : am_At false b sa D dA (Zs b sa av) s (am_emb u) H locs) (hl : lv_has LS 7 (lw_ls b bs i)) (hi : i + 7 ≤ Ln) (hR : cells ≤ 601024 ∧ slots ≤ 7293034) (I : lw_Inv u S L L') : lw_Case p l e s mi below meth c Q b sa av bs D dA 524 LS H locs cells slots := by
  intro k
  have hx := F.1
  have hb := F.2.1
  obtain ⟨iC, nC, iR, nR, w⟩ := id I
  refine lv_aload_n hx hb d_law_524 rfl (lv_at hl 1 rfl) ?_
  refine lw_el (k := 1) F A hbb hl (by omega) rfl d_law_525 d_law_526 d_law_528 d_law_529 d_law_530 ?_
  refine lw_el (k := 2) F A hbb hl (by omega) rfl d_law_531 d_law_532 d_law_534 d_law_535 d_law_536 ?_
  refine lw_callV (idx := 56) (z := 123) (a := 0) (ci := 11) (As := [.int (xs (i + 1)), .int (xs (i + 2))]) (rest := []) F A rfl rfl (by decide +kernel) (List.mem_of_getElem? (i := 965) (by decide +kernel)) (em_obj (show sh 0 11 16 from rfl) (by decide)) rfl (by decide) rfl rfl hl.1 (Nat.le_of_ble_eq_true rfl) d_law_537 ?_ hR
  refine C_eat iC w (fun u1 o1 iC1 => lw_kI (r := (b2i (eatS S (xs (i + 1)) (xs (i + 2))).2)) (fun H1 locs1 A1 => ?_))
  have iR1 := lw_R I o1
  refine lv_aload_n hx hb d_law_540 rfl (lv_at hl 2 rfl) ?_
  refine lw_el (k := 1) F A1 hbb hl (by omega) rfl d_law_541 d_law_542 d_law_544 d_law_545 d_law_546 ?_
  refine lw_el (k := 2) F A1 hbb hl (by omega) rfl d_law_547 d_law_548 d_law_550 d_law_551 d_law_552 ?_
  refine lw_callV (idx := 60) (z := 229) (a := 203) (ci := 12) (As := [.int (xs (i + 1)), .int (xs (i + 2))]) (rest := [.int (b2i (eatS S (xs (i + 1)) (xs (i + 2))).2)]) F A1 rfl rfl (by decide +kernel) (List.mem_of_getElem? (i := 1839) (by decide +kernel)) (em_obj (show sh 203 12 68 from rfl) (by decide)) rfl (by decide) rfl rfl hl.1 (Nat.le_of_ble_eq_true rfl) d_law_553 ?_ hR
  refine R_eat iR1 w (fun u2 o2 iR2 => lw_kI (r := (b2i (eatS S (xs (i + 1)) (xs (i + 2))).2)) (fun H2 locs2 A2 => ?_))
  refine lv_icmp_eq (tgt := 1226) hx hb d_law_556 rfl (fun _ => ?_) (fun q => absurd rfl q)
  exact k _ _ _ _ _ _ (lw_Inv_of I o1 iC1 o2 iR2 (WS_eat w (xs (i + 1)) (xs (i + 2))) (by unfold eatS; (repeat' split) <;> rfl)) A2
theorem lw_c8 (F : lw_Fx p s mi meth c bs Ln xs) (hbb : bs < b) (A : am_At false b sa D dA (Zs b sa av) s (am_emb u) H locs) (hl : lv_has LS 7 (lw_ls b bs i)) (hi : i + 7 ≤ Ln) (hR : cells ≤ 601024 ∧ slots ≤ 7293034) (I : lw_Inv u S L L') : lw_Case p l e s mi below meth c Q b sa av bs D dA 561 LS H locs cells slots := by
  intro k
  have hx := F.1
  have hb := F.2.1
  obtain ⟨iC, nC, iR, nR, w⟩ := id I
  refine lv_aload_n hx hb d_law_561 rfl (lv_at hl 1 rfl) ?_
  refine lw_el (k := 1) F A hbb hl (by omega) rfl d_law_562 d_law_563 d_law_565 d_law_566 d_law_567 ?_
  refine lw_el (k := 2) F A hbb hl (by omega) rfl d_law_568 d_law_569 d_law_571 d_law_572 d_law_573 ?_
  refine lw_el (k := 3) F A hbb hl (by omega) rfl d_law_574 d_law_575 d_law_577 d_law_578 d_law_579 ?_
  refine lw_callV (idx := 61) (z := 124) (a := 0) (ci := 11) (As := [.int (xs (i + 1)), .int (xs (i + 2)), .int (xs (i + 3))]) (rest := []) F A rfl rfl (by decide +kernel) (List.mem_of_getElem? (i := 994) (by decide +kernel)) (em_obj (show sh 0 11 16 from rfl) (by decide)) rfl (by decide) rfl rfl hl.1 (Nat.le_of_ble_eq_true rfl) d_law_580 ?_ hR
  refine C_bite iC w (fun u1 o1 iC1 => lw_kI (r := (biteS S (xs (i + 1)) (xs (i + 2)) (xs (i + 3))).2) (fun H1 locs1 A1 => ?_))
  have iR1 := lw_R I o1
  refine lv_aload_n hx hb d_law_583 rfl (lv_at hl 2 rfl) ?_
  refine lw_el (k := 1) F A1 hbb hl (by omega) rfl d_law_584 d_law_585 d_law_587 d_law_588 d_law_589 ?_
  refine lw_el (k := 2) F A1 hbb hl (by omega) rfl d_law_590 d_law_591 d_law_593 d_law_594 d_law_595 ?_
  refine lw_el (k := 3) F A1 hbb hl (by omega) rfl d_law_596 d_law_597 d_law_599 d_law_600 d_law_601 ?_
  refine lw_callV (idx := 65) (z := 232) (a := 203) (ci := 12) (As := [.int (xs (i + 1)), .int (xs (i + 2)), .int (xs (i + 3))]) (rest := [.int (biteS S (xs (i + 1)) (xs (i + 2)) (xs (i + 3))).2]) F A1 rfl rfl (by decide +kernel) (List.mem_of_getElem? (i := 1866) (by decide +kernel)) (em_obj (show sh 203 12 68 from rfl) (by decide)) rfl (by decide) rfl rfl hl.1 (Nat.le_of_ble_eq_true rfl) d_law_602 ?_ hR
  refine R_bite iR1 w (fun u2 o2 iR2 => lw_kI (r := (biteS S (xs (i + 1)) (xs (i + 2)) (xs (i + 3))).2) (fun H2 locs2 A2 => ?_))
  refine lv_icmp_eq (tgt := 1226) hx hb d_law_605 rfl (fun _ => ?_) (fun q => absurd rfl q)
  exact k _ _ _ _ _ _ (lw_Inv_of I o1 iC1 o2 iR2 (WS_bite w (xs (i + 1)) (xs (i + 2)) (xs (i + 3))) (by unfold biteS; (repeat' split) <;> rfl)) A2
theorem lw_c9 (F : lw_Fx p s mi meth c bs Ln xs) (hbb : bs < b) (A : am_At false b sa D dA (Zs b sa av) s (am_emb u) H locs) (hl : lv_has LS 7 (lw_ls b bs i)) (hi : i + 7 ≤ Ln) (hR : cells ≤ 601024 ∧ slots ≤ 7293034) (I : lw_Inv u S L L') : lw_Case p l e s mi below meth c Q b sa av bs D dA 610 LS H locs cells slots := by
  intro k
  have hx := F.1
  have hb := F.2.1
  obtain ⟨iC, nC, iR, nR, w⟩ := id I
  refine lv_aload_n hx hb d_law_610 rfl (lv_at hl 1 rfl) ?_
  refine lw_el (k := 1) F A hbb hl (by omega) rfl d_law_611 d_law_612 d_law_614 d_law_615 d_law_616 ?_
  refine lw_callV (idx := 66) (z := 125) (a := 0) (ci := 11) (As := [.int (xs (i + 1))]) (rest := []) F A rfl rfl (by decide +kernel) (List.mem_of_getElem? (i := 1015) (by decide +kernel)) (em_obj (show sh 0 11 16 from rfl) (by decide)) rfl (by decide) rfl rfl hl.1 (Nat.le_of_ble_eq_true rfl) d_law_617 ?_ hR
  refine C_copy iC w (fun u1 o1 iC1 => lw_kI (r := (copyS S (xs (i + 1))).2) (fun H1 locs1 A1 => ?_))
  have iR1 := lw_R I o1
  refine lv_aload_n hx hb d_law_620 rfl (lv_at hl 2 rfl) ?_
  refine lw_el (k := 1) F A1 hbb hl (by omega) rfl d_law_621 d_law_622 d_law_624 d_law_625 d_law_626 ?_
  refine lw_callV (idx := 70) (z := 235) (a := 203) (ci := 12) (As := [.int (xs (i + 1))]) (rest := [.int (copyS S (xs (i + 1))).2]) F A1 rfl rfl (by decide +kernel) (List.mem_of_getElem? (i := 1898) (by decide +kernel)) (em_obj (show sh 203 12 68 from rfl) (by decide)) rfl (by decide) rfl rfl hl.1 (Nat.le_of_ble_eq_true rfl) d_law_627 ?_ hR
  refine R_copy iR1 w (fun u2 o2 iR2 => lw_kI (r := (copyS S (xs (i + 1))).2) (fun H2 locs2 A2 => ?_))
  refine lv_icmp_eq (tgt := 1226) hx hb d_law_630 rfl (fun _ => ?_) (fun q => absurd rfl q)
  exact k _ _ _ _ _ _ (lw_Inv_of I o1 iC1 o2 iR2 (WS_copy w (xs (i + 1))) (by unfold copyS; (repeat' split) <;> rfl)) A2
theorem lw_c10 (F : lw_Fx p s mi meth c bs Ln xs) (hbb : bs < b) (A : am_At false b sa D dA (Zs b sa av) s (am_emb u) H locs) (hl : lv_has LS 7 (lw_ls b bs i)) (hi : i + 7 ≤ Ln) (hR : cells ≤ 601024 ∧ slots ≤ 7293034) (I : lw_Inv u S L L') : lw_Case p l e s mi below meth c Q b sa av bs D dA 635 LS H locs cells slots := by
  intro k
  have hx := F.1
  have hb := F.2.1
  obtain ⟨iC, nC, iR, nR, w⟩ := id I
  refine lv_aload_n hx hb d_law_635 rfl (lv_at hl 1 rfl) ?_
  refine lw_el (k := 1) F A hbb hl (by omega) rfl d_law_636 d_law_637 d_law_639 d_law_640 d_law_641 ?_
  refine lw_callV (idx := 71) (z := 126) (a := 0) (ci := 11) (As := [.int (xs (i + 1))]) (rest := []) F A rfl rfl (by decide +kernel) (List.mem_of_getElem? (i := 1025) (by decide +kernel)) (em_obj (show sh 0 11 16 from rfl) (by decide)) rfl (by decide) rfl rfl hl.1 (Nat.le_of_ble_eq_true rfl) d_law_642 ?_ hR
  refine C_dies iC w (fun u1 o1 iC1 => lw_kI (r := (diesS S (xs (i + 1))).2) (fun H1 locs1 A1 => ?_))
  have iR1 := lw_R I o1
  refine lv_aload_n hx hb d_law_645 rfl (lv_at hl 2 rfl) ?_
  refine lw_el (k := 1) F A1 hbb hl (by omega) rfl d_law_646 d_law_647 d_law_649 d_law_650 d_law_651 ?_
  refine lw_callV (idx := 74) (z := 237) (a := 203) (ci := 12) (As := [.int (xs (i + 1))]) (rest := [.int (diesS S (xs (i + 1))).2]) F A1 rfl rfl (by decide +kernel) (List.mem_of_getElem? (i := 1913) (by decide +kernel)) (em_obj (show sh 203 12 68 from rfl) (by decide)) rfl (by decide) rfl rfl hl.1 (Nat.le_of_ble_eq_true rfl) d_law_652 ?_ hR
  refine R_dies iR1 w (fun u2 o2 iR2 => lw_kI (r := (diesS S (xs (i + 1))).2) (fun H2 locs2 A2 => ?_))
  refine lv_icmp_eq (tgt := 1226) hx hb d_law_655 rfl (fun _ => ?_) (fun q => absurd rfl q)
  exact k _ _ _ _ _ _ (lw_Inv_of I o1 iC1 o2 iR2 (WS_dies w (xs (i + 1))) (by unfold diesS; (repeat' split) <;> rfl)) A2
theorem lw_c11 (F : lw_Fx p s mi meth c bs Ln xs) (hbb : bs < b) (A : am_At false b sa D dA (Zs b sa av) s (am_emb u) H locs) (hl : lv_has LS 7 (lw_ls b bs i)) (hi : i + 7 ≤ Ln) (hR : cells ≤ 601024 ∧ slots ≤ 7293034) (I : lw_Inv u S L L') : lw_Case p l e s mi below meth c Q b sa av bs D dA 660 LS H locs cells slots := by
  intro k
  have hx := F.1
  have hb := F.2.1
  obtain ⟨iC, nC, iR, nR, w⟩ := id I
  refine lv_aload_n hx hb d_law_660 rfl (lv_at hl 1 rfl) ?_
  refine lw_el (k := 1) F A hbb hl (by omega) rfl d_law_661 d_law_662 d_law_664 d_law_665 d_law_666 ?_
  refine lw_callV (idx := 75) (z := 127) (a := 0) (ci := 11) (As := [.int (xs (i + 1))]) (rest := []) F A rfl rfl (by decide +kernel) (List.mem_of_getElem? (i := 1033) (by decide +kernel)) (em_obj (show sh 0 11 16 from rfl) (by decide)) rfl (by decide) rfl rfl hl.1 (Nat.le_of_ble_eq_true rfl) d_law_667 ?_ hR
  refine C_days iC w (fun u1 o1 iC1 => lw_kI (r := (daysS S (xs (i + 1))).2) (fun H1 locs1 A1 => ?_))
  have iR1 := lw_R I o1
  refine lv_aload_n hx hb d_law_670 rfl (lv_at hl 2 rfl) ?_
  refine lw_el (k := 1) F A1 hbb hl (by omega) rfl d_law_671 d_law_672 d_law_674 d_law_675 d_law_676 ?_
  refine lw_callV (idx := 78) (z := 239) (a := 203) (ci := 12) (As := [.int (xs (i + 1))]) (rest := [.int (daysS S (xs (i + 1))).2]) F A1 rfl rfl (by decide +kernel) (List.mem_of_getElem? (i := 1921) (by decide +kernel)) (em_obj (show sh 203 12 68 from rfl) (by decide)) rfl (by decide) rfl rfl hl.1 (Nat.le_of_ble_eq_true rfl) d_law_677 ?_ hR
  refine R_days iR1 w (fun u2 o2 iR2 => lw_kI (r := (daysS S (xs (i + 1))).2) (fun H2 locs2 A2 => ?_))
  refine lv_icmp_eq (tgt := 1226) hx hb d_law_680 rfl (fun _ => ?_) (fun q => absurd rfl q)
  exact k _ _ _ _ _ _ (lw_Inv_of I o1 iC1 o2 iR2 (WS_days w (xs (i + 1))) (by unfold daysS; (repeat' split) <;> rfl)) A2
theorem lw_c12 (F : lw_Fx p s mi meth c bs Ln xs) (hbb : bs < b) (A : am_At false b sa D dA (Zs b sa av) s (am_emb u) H locs) (hl : lv_has LS 7 (lw_ls b bs i)) (hi : i + 7 ≤ Ln) (hR : cells ≤ 601024 ∧ slots ≤ 7293034) (I : lw_Inv u S L L') : lw_Case p l e s mi below meth c Q b sa av bs D dA 685 LS H locs cells slots := by
  intro k
  have hx := F.1
  have hb := F.2.1
  obtain ⟨iC, nC, iR, nR, w⟩ := id I
  refine lv_aload_n hx hb d_law_685 rfl (lv_at hl 1 rfl) ?_
  refine lw_callV (idx := 79) (z := 128) (a := 0) (ci := 11) (As := []) (rest := []) F A rfl rfl (by decide +kernel) (List.mem_of_getElem? (i := 1041) (by decide +kernel)) (em_obj (show sh 0 11 16 from rfl) (by decide)) rfl (by decide) rfl rfl hl.1 (Nat.le_of_ble_eq_true rfl) d_law_686 ?_ hR
  refine C_undo iC w (fun u1 o1 iC1 => lw_kI (r := (b2i (undoS S).2)) (fun H1 locs1 A1 => ?_))
  have iR1 := lw_R I o1
  refine lv_aload_n hx hb d_law_689 rfl (lv_at hl 2 rfl) ?_
  refine lw_callV (idx := 83) (z := 240) (a := 203) (ci := 12) (As := []) (rest := [.int (b2i (undoS S).2)]) F A1 rfl rfl (by decide +kernel) (List.mem_of_getElem? (i := 1929) (by decide +kernel)) (em_obj (show sh 203 12 68 from rfl) (by decide)) rfl (by decide) rfl rfl hl.1 (Nat.le_of_ble_eq_true rfl) d_law_690 ?_ hR
  refine R_undo iR1 w (fun u2 o2 iR2 => lw_kI (r := (b2i (undoS S).2)) (fun H2 locs2 A2 => ?_))
  refine lv_icmp_eq (tgt := 1226) hx hb d_law_693 rfl (fun _ => ?_) (fun q => absurd rfl q)
  exact k _ _ _ _ _ _ (lw_Inv_of I o1 iC1 o2 iR2 (WS_undo w) (by unfold undoS; (repeat' split) <;> rfl)) A2
theorem lw_c13 (F : lw_Fx p s mi meth c bs Ln xs) (hbb : bs < b) (A : am_At false b sa D dA (Zs b sa av) s (am_emb u) H locs) (hl : lv_has LS 7 (lw_ls b bs i)) (hi : i + 7 ≤ Ln) (hR : cells ≤ 601024 ∧ slots ≤ 7293034) (I : lw_Inv u S L L') : lw_Case p l e s mi below meth c Q b sa av bs D dA 698 LS H locs cells slots := by
  intro k
  have hx := F.1
  have hb := F.2.1
  obtain ⟨iC, nC, iR, nR, w⟩ := id I
  refine lv_aload_n hx hb d_law_698 rfl (lv_at hl 1 rfl) ?_
  refine lw_callV (idx := 84) (z := 129) (a := 0) (ci := 11) (As := []) (rest := []) F A rfl rfl (by decide +kernel) (List.mem_of_getElem? (i := 1045) (by decide +kernel)) (em_obj (show sh 0 11 16 from rfl) (by decide)) rfl (by decide) rfl rfl hl.1 (Nat.le_of_ble_eq_true rfl) d_law_699 ?_ hR
  refine wC_lost iC w (fun u1 o1 iC1 => lw_kI (r := (goneV S.1 S.2.1.1)) (fun H1 locs1 A1 => ?_))
  have iR1 := lw_R I o1
  refine lv_aload_n hx hb d_law_702 rfl (lv_at hl 2 rfl) ?_
  refine lw_callV (idx := 87) (z := 244) (a := 203) (ci := 12) (As := []) (rest := [.int (goneV S.1 S.2.1.1)]) F A1 rfl rfl (by decide +kernel) (List.mem_of_getElem? (i := 1933) (by decide +kernel)) (em_obj (show sh 203 12 68 from rfl) (by decide)) rfl (by decide) rfl rfl hl.1 (Nat.le_of_ble_eq_true rfl) d_law_703 ?_ hR
  refine wR_lost iR1 w (fun u2 o2 iR2 => lw_kI (r := (goneV S.1 S.2.1.1)) (fun H2 locs2 A2 => ?_))
  refine lv_icmp_eq (tgt := 1226) hx hb d_law_706 rfl (fun _ => ?_) (fun q => absurd rfl q)
  exact k _ _ _ _ _ _ (lw_Inv_of I o1 iC1 o2 iR2 w rfl) A2
theorem lw_c14 (F : lw_Fx p s mi meth c bs Ln xs) (hbb : bs < b) (A : am_At false b sa D dA (Zs b sa av) s (am_emb u) H locs) (hl : lv_has LS 7 (lw_ls b bs i)) (hi : i + 7 ≤ Ln) (hR : cells ≤ 601024 ∧ slots ≤ 7293034) (I : lw_Inv u S L L') : lw_Case p l e s mi below meth c Q b sa av bs D dA 711 LS H locs cells slots := by
  intro k
  have hx := F.1
  have hb := F.2.1
  obtain ⟨iC, nC, iR, nR, w⟩ := id I
  refine lv_aload_n hx hb d_law_711 rfl (lv_at hl 1 rfl) ?_
  refine lw_el (k := 1) F A hbb hl (by omega) rfl d_law_712 d_law_713 d_law_715 d_law_716 d_law_717 ?_
  refine lw_callV (idx := 88) (z := 130) (a := 0) (ci := 11) (As := [.int (xs (i + 1))]) (rest := []) F A rfl rfl (by decide +kernel) (List.mem_of_getElem? (i := 1070) (by decide +kernel)) (em_obj (show sh 0 11 16 from rfl) (by decide)) rfl (by decide) rfl rfl hl.1 (Nat.le_of_ble_eq_true rfl) d_law_718 ?_ hR
  refine C_judged iC w (fun u1 o1 iC1 => lw_kI (r := (judgedS S (xs (i + 1)))) (fun H1 locs1 A1 => ?_))
  have iR1 := lw_R I o1
  refine lv_aload_n hx hb d_law_721 rfl (lv_at hl 2 rfl) ?_
  refine lw_el (k := 1) F A1 hbb hl (by omega) rfl d_law_722 d_law_723 d_law_725 d_law_726 d_law_727 ?_
  refine lw_callV (idx := 91) (z := 246) (a := 203) (ci := 12) (As := [.int (xs (i + 1))]) (rest := [.int (judgedS S (xs (i + 1)))]) F A1 rfl rfl (by decide +kernel) (List.mem_of_getElem? (i := 1949) (by decide +kernel)) (em_obj (show sh 203 12 68 from rfl) (by decide)) rfl (by decide) rfl rfl hl.1 (Nat.le_of_ble_eq_true rfl) d_law_728 ?_ hR
  refine R_judged iR1 w (fun u2 o2 iR2 => lw_kI (r := (judgedS S (xs (i + 1)))) (fun H2 locs2 A2 => ?_))
  refine lv_icmp_eq (tgt := 1226) hx hb d_law_731 rfl (fun _ => ?_) (fun q => absurd rfl q)
  exact k _ _ _ _ _ _ (lw_Inv_of I o1 iC1 o2 iR2 w rfl) A2
theorem lw_c15 (F : lw_Fx p s mi meth c bs Ln xs) (hbb : bs < b) (A : am_At false b sa D dA (Zs b sa av) s (am_emb u) H locs) (hl : lv_has LS 7 (lw_ls b bs i)) (hi : i + 7 ≤ Ln) (hR : cells ≤ 601024 ∧ slots ≤ 7293034) (I : lw_Inv u S L L') : lw_Case p l e s mi below meth c Q b sa av bs D dA 736 LS H locs cells slots := by
  intro k
  have hx := F.1
  have hb := F.2.1
  obtain ⟨iC, nC, iR, nR, w⟩ := id I
  refine lv_aload_n hx hb d_law_736 rfl (lv_at hl 1 rfl) ?_
  refine lw_el (k := 1) F A hbb hl (by omega) rfl d_law_737 d_law_738 d_law_740 d_law_741 d_law_742 ?_
  refine lw_el (k := 2) F A hbb hl (by omega) rfl d_law_743 d_law_744 d_law_746 d_law_747 d_law_748 ?_
  refine lw_el (k := 3) F A hbb hl (by omega) rfl d_law_749 d_law_750 d_law_752 d_law_753 d_law_754 ?_
  refine lw_callV (idx := 92) (z := 131) (a := 0) (ci := 11) (As := [.int (xs (i + 1)), .int (xs (i + 2)), .int (xs (i + 3))]) (rest := []) F A rfl rfl (by decide +kernel) (List.mem_of_getElem? (i := 1084) (by decide +kernel)) (em_obj (show sh 0 11 16 from rfl) (by decide)) rfl (by decide) rfl rfl hl.1 (Nat.le_of_ble_eq_true rfl) d_law_755 ?_ hR
  refine wC_meal iC w (fun u1 o1 iC1 => lw_kI (r := (mealS S (xs (i + 1)) (xs (i + 2)) (xs (i + 3)))) (fun H1 locs1 A1 => ?_))
  have iR1 := lw_R I o1
  refine lv_aload_n hx hb d_law_758 rfl (lv_at hl 2 rfl) ?_
  refine lw_el (k := 1) F A1 hbb hl (by omega) rfl d_law_759 d_law_760 d_law_762 d_law_763 d_law_764 ?_
  refine lw_el (k := 2) F A1 hbb hl (by omega) rfl d_law_765 d_law_766 d_law_768 d_law_769 d_law_770 ?_
  refine lw_el (k := 3) F A1 hbb hl (by omega) rfl d_law_771 d_law_772 d_law_774 d_law_775 d_law_776 ?_
  refine lw_callV (idx := 95) (z := 248) (a := 203) (ci := 12) (As := [.int (xs (i + 1)), .int (xs (i + 2)), .int (xs (i + 3))]) (rest := [.int (mealS S (xs (i + 1)) (xs (i + 2)) (xs (i + 3)))]) F A1 rfl rfl (by decide +kernel) (List.mem_of_getElem? (i := 1957) (by decide +kernel)) (em_obj (show sh 203 12 68 from rfl) (by decide)) rfl (by decide) rfl rfl hl.1 (Nat.le_of_ble_eq_true rfl) d_law_777 ?_ hR
  refine wR_meal iR1 w (fun u2 o2 iR2 => lw_kI (r := (mealS S (xs (i + 1)) (xs (i + 2)) (xs (i + 3)))) (fun H2 locs2 A2 => ?_))
  refine lv_icmp_eq (tgt := 1226) hx hb d_law_780 rfl (fun _ => ?_) (fun q => absurd rfl q)
  exact k _ _ _ _ _ _ (lw_Inv_of I o1 iC1 o2 iR2 w rfl) A2
theorem lw_c16 (F : lw_Fx p s mi meth c bs Ln xs) (hbb : bs < b) (A : am_At false b sa D dA (Zs b sa av) s (am_emb u) H locs) (hl : lv_has LS 7 (lw_ls b bs i)) (hi : i + 7 ≤ Ln) (hR : cells ≤ 601024 ∧ slots ≤ 7293034) (I : lw_Inv u S L L') : lw_Case p l e s mi below meth c Q b sa av bs D dA 785 LS H locs cells slots := by
  intro k
  have hx := F.1
  have hb := F.2.1
  obtain ⟨iC, nC, iR, nR, w⟩ := id I
  refine lv_aload_n hx hb d_law_785 rfl (lv_at hl 1 rfl) ?_
  refine lw_el (k := 1) F A hbb hl (by omega) rfl d_law_786 d_law_787 d_law_789 d_law_790 d_law_791 ?_
  refine lw_callV (idx := 96) (z := 132) (a := 0) (ci := 11) (As := [.int (xs (i + 1))]) (rest := []) F A rfl rfl (by decide +kernel) (List.mem_of_getElem? (i := 1107) (by decide +kernel)) (em_obj (show sh 0 11 16 from rfl) (by decide)) rfl (by decide) rfl rfl hl.1 (Nat.le_of_ble_eq_true rfl) d_law_792 ?_ hR
  refine wC_safe iC w (fun u1 o1 iC1 => lw_kI (r := (safeS S (xs (i + 1)))) (fun H1 locs1 A1 => ?_))
  have iR1 := lw_R I o1
  refine lv_aload_n hx hb d_law_795 rfl (lv_at hl 2 rfl) ?_
  refine lw_el (k := 1) F A1 hbb hl (by omega) rfl d_law_796 d_law_797 d_law_799 d_law_800 d_law_801 ?_
  refine lw_callV (idx := 99) (z := 249) (a := 203) (ci := 12) (As := [.int (xs (i + 1))]) (rest := [.int (safeS S (xs (i + 1)))]) F A1 rfl rfl (by decide +kernel) (List.mem_of_getElem? (i := 1965) (by decide +kernel)) (em_obj (show sh 203 12 68 from rfl) (by decide)) rfl (by decide) rfl rfl hl.1 (Nat.le_of_ble_eq_true rfl) d_law_802 ?_ hR
  refine wR_safe iR1 w (fun u2 o2 iR2 => lw_kI (r := (safeS S (xs (i + 1)))) (fun H2 locs2 A2 => ?_))
  refine lv_icmp_eq (tgt := 1226) hx hb d_law_805 rfl (fun _ => ?_) (fun q => absurd rfl q)
  exact k _ _ _ _ _ _ (lw_Inv_of I o1 iC1 o2 iR2 w rfl) A2
theorem lw_c17 (F : lw_Fx p s mi meth c bs Ln xs) (hbb : bs < b) (A : am_At false b sa D dA (Zs b sa av) s (am_emb u) H locs) (hl : lv_has LS 7 (lw_ls b bs i)) (hi : i + 7 ≤ Ln) (hR : cells ≤ 601024 ∧ slots ≤ 7293034) (I : lw_Inv u S L L') : lw_Case p l e s mi below meth c Q b sa av bs D dA 810 LS H locs cells slots := by
  intro k
  have hx := F.1
  have hb := F.2.1
  obtain ⟨iC, nC, iR, nR, w⟩ := id I
  refine lv_aload_n hx hb d_law_810 rfl (lv_at hl 1 rfl) ?_
  refine lw_el (k := 1) F A hbb hl (by omega) rfl d_law_811 d_law_812 d_law_814 d_law_815 d_law_816 ?_
  refine lw_callV (idx := 100) (z := 133) (a := 0) (ci := 11) (As := [.int (xs (i + 1))]) (rest := []) F A rfl rfl (by decide +kernel) (List.mem_of_getElem? (i := 1116) (by decide +kernel)) (em_obj (show sh 0 11 16 from rfl) (by decide)) rfl (by decide) rfl rfl hl.1 (Nat.le_of_ble_eq_true rfl) d_law_817 ?_ hR
  refine C_sit iC w (fun u1 o1 iC1 => lw_kI (r := (sitS S (xs (i + 1)))) (fun H1 locs1 A1 => ?_))
  have iR1 := lw_R I o1
  refine lv_aload_n hx hb d_law_820 rfl (lv_at hl 2 rfl) ?_
  refine lw_el (k := 1) F A1 hbb hl (by omega) rfl d_law_821 d_law_822 d_law_824 d_law_825 d_law_826 ?_
  refine lw_callV (idx := 103) (z := 251) (a := 203) (ci := 12) (As := [.int (xs (i + 1))]) (rest := [.int (sitS S (xs (i + 1)))]) F A1 rfl rfl (by decide +kernel) (List.mem_of_getElem? (i := 1969) (by decide +kernel)) (em_obj (show sh 203 12 68 from rfl) (by decide)) rfl (by decide) rfl rfl hl.1 (Nat.le_of_ble_eq_true rfl) d_law_827 ?_ hR
  refine wR_sit iR1 w (fun u2 o2 iR2 => lw_kI (r := (sitS S (xs (i + 1)))) (fun H2 locs2 A2 => ?_))
  refine lv_icmp_eq (tgt := 1226) hx hb d_law_830 rfl (fun _ => ?_) (fun q => absurd rfl q)
  exact k _ _ _ _ _ _ (lw_Inv_of I o1 iC1 o2 iR2 w rfl) A2
theorem lw_c18 (F : lw_Fx p s mi meth c bs Ln xs) (hbb : bs < b) (A : am_At false b sa D dA (Zs b sa av) s (am_emb u) H locs) (hl : lv_has LS 7 (lw_ls b bs i)) (hi : i + 7 ≤ Ln) (hR : cells ≤ 601024 ∧ slots ≤ 7293034) (I : lw_Inv u S L L') : lw_Case p l e s mi below meth c Q b sa av bs D dA 835 LS H locs cells slots := by
  intro k
  have hx := F.1
  have hb := F.2.1
  obtain ⟨iC, nC, iR, nR, w⟩ := id I
  refine lv_aload_n hx hb d_law_835 rfl (lv_at hl 1 rfl) ?_
  refine lw_callV (idx := 104) (z := 134) (a := 0) (ci := 11) (As := []) (rest := []) F A rfl rfl (by decide +kernel) (List.mem_of_getElem? (i := 1131) (by decide +kernel)) (em_obj (show sh 0 11 16 from rfl) (by decide)) rfl (by decide) rfl rfl hl.1 (Nat.le_of_ble_eq_true rfl) d_law_836 ?_ hR
  refine C_evenings iC w (fun u1 o1 iC1 => lw_kI (r := (evenS S.1 S.2.1.1)) (fun H1 locs1 A1 => ?_))
  have iR1 := lw_R I o1
  refine lv_aload_n hx hb d_law_839 rfl (lv_at hl 2 rfl) ?_
  refine lw_callV (idx := 107) (z := 253) (a := 203) (ci := 12) (As := []) (rest := [.int (evenS S.1 S.2.1.1)]) F A1 rfl rfl (by decide +kernel) (List.mem_of_getElem? (i := 1977) (by decide +kernel)) (em_obj (show sh 203 12 68 from rfl) (by decide)) rfl (by decide) rfl rfl hl.1 (Nat.le_of_ble_eq_true rfl) d_law_840 ?_ hR
  refine R_evenings iR1 w (fun u2 o2 iR2 => lw_kI (r := (evenS S.1 S.2.1.1)) (fun H2 locs2 A2 => ?_))
  refine lv_icmp_eq (tgt := 1226) hx hb d_law_843 rfl (fun _ => ?_) (fun q => absurd rfl q)
  exact k _ _ _ _ _ _ (lw_Inv_of I o1 iC1 o2 iR2 w rfl) A2
theorem lw_c19 (F : lw_Fx p s mi meth c bs Ln xs) (hbb : bs < b) (A : am_At false b sa D dA (Zs b sa av) s (am_emb u) H locs) (hl : lv_has LS 7 (lw_ls b bs i)) (hi : i + 7 ≤ Ln) (hR : cells ≤ 601024 ∧ slots ≤ 7293034) (I : lw_Inv u S L L') : lw_Case p l e s mi below meth c Q b sa av bs D dA 848 LS H locs cells slots := by
  intro k
  have hx := F.1
  have hb := F.2.1
  obtain ⟨iC, nC, iR, nR, w⟩ := id I
  by_cases hz : xs (i + 2) = 0
  · refine lv_aload_n hx hb d_law_848 rfl (lv_at hl 1 rfl) ?_
    refine lw_el (k := 1) F A hbb hl (by omega) rfl d_law_849 d_law_850 d_law_852 d_law_853 d_law_854 ?_
    refine lw_el (k := 2) F A hbb hl (by omega) rfl d_law_855 d_law_856 d_law_858 d_law_859 d_law_860 ?_
    refine lv_if_eq (tgt := 868) hx hb d_law_861 rfl (fun _ => ?_) (fun q => absurd hz q)
    refine lv_iconst (v := b2i false) hx hb d_law_868 rfl ?_
    refine lw_callV (idx := 108) (z := 135) (a := 0) (ci := 11) (As := [.int (xs (i + 1)), .int (b2i false)]) (rest := []) F A rfl rfl (by decide +kernel) (List.mem_of_getElem? (i := 1149) (by decide +kernel)) (em_obj (show sh 0 11 16 from rfl) (by decide)) rfl (by decide) rfl rfl hl.1 (Nat.le_of_ble_eq_true rfl) d_law_869 ?_ hR
    refine C_tell iC w (fun u1 o1 iC1 => lw_kI (r := (b2i (tellS S (xs (i + 1)) false).2)) (fun H1 locs1 A1 => ?_))
    have iR1 := lw_R I o1
    refine lv_aload_n hx hb d_law_872 rfl (lv_at hl 2 rfl) ?_
    refine lw_el (k := 1) F A1 hbb hl (by omega) rfl d_law_873 d_law_874 d_law_876 d_law_877 d_law_878 ?_
    refine lw_el (k := 2) F A1 hbb hl (by omega) rfl d_law_879 d_law_880 d_law_882 d_law_883 d_law_884 ?_
    refine lv_if_eq (tgt := 892) hx hb d_law_885 rfl (fun _ => ?_) (fun q => absurd hz q)
    refine lv_iconst (v := b2i false) hx hb d_law_892 rfl ?_
    refine lw_callV (idx := 112) (z := 254) (a := 203) (ci := 12) (As := [.int (xs (i + 1)), .int (b2i false)]) (rest := [.int (b2i (tellS S (xs (i + 1)) false).2)]) F A1 rfl rfl (by decide +kernel) (List.mem_of_getElem? (i := 1986) (by decide +kernel)) (em_obj (show sh 203 12 68 from rfl) (by decide)) rfl (by decide) rfl rfl hl.1 (Nat.le_of_ble_eq_true rfl) d_law_893 ?_ hR
    refine R_tell iR1 w (fun u2 o2 iR2 => lw_kI (r := (b2i (tellS S (xs (i + 1)) false).2)) (fun H2 locs2 A2 => ?_))
    refine lv_icmp_eq (tgt := 1226) hx hb d_law_896 rfl (fun _ => ?_) (fun q => absurd rfl q)
    exact k _ _ _ _ _ _ (lw_Inv_of I o1 iC1 o2 iR2 (WS_tell w (xs (i + 1)) false) (by unfold tellS; (repeat' split) <;> rfl)) A2
  · refine lv_aload_n hx hb d_law_848 rfl (lv_at hl 1 rfl) ?_
    refine lw_el (k := 1) F A hbb hl (by omega) rfl d_law_849 d_law_850 d_law_852 d_law_853 d_law_854 ?_
    refine lw_el (k := 2) F A hbb hl (by omega) rfl d_law_855 d_law_856 d_law_858 d_law_859 d_law_860 ?_
    refine lv_if_eq (tgt := 868) hx hb d_law_861 rfl (fun q => absurd q hz) (fun _ => ?_)
    refine lv_iconst (v := b2i true) hx hb d_law_864 rfl ?_
    refine lv_goto (tgt := 869) hx hb d_law_865 rfl ?_
    refine lw_callV (idx := 108) (z := 135) (a := 0) (ci := 11) (As := [.int (xs (i + 1)), .int (b2i true)]) (rest := []) F A rfl rfl (by decide +kernel) (List.mem_of_getElem? (i := 1149) (by decide +kernel)) (em_obj (show sh 0 11 16 from rfl) (by decide)) rfl (by decide) rfl rfl hl.1 (Nat.le_of_ble_eq_true rfl) d_law_869 ?_ hR
    refine C_tell iC w (fun u1 o1 iC1 => lw_kI (r := (b2i (tellS S (xs (i + 1)) true).2)) (fun H1 locs1 A1 => ?_))
    have iR1 := lw_R I o1
    refine lv_aload_n hx hb d_law_872 rfl (lv_at hl 2 rfl) ?_
    refine lw_el (k := 1) F A1 hbb hl (by omega) rfl d_law_873 d_law_874 d_law_876 d_law_877 d_law_878 ?_
    refine lw_el (k := 2) F A1 hbb hl (by omega) rfl d_law_879 d_law_880 d_law_882 d_law_883 d_law_884 ?_
    refine lv_if_eq (tgt := 892) hx hb d_law_885 rfl (fun q => absurd q hz) (fun _ => ?_)
    refine lv_iconst (v := b2i true) hx hb d_law_888 rfl ?_
    refine lv_goto (tgt := 893) hx hb d_law_889 rfl ?_
    refine lw_callV (idx := 112) (z := 254) (a := 203) (ci := 12) (As := [.int (xs (i + 1)), .int (b2i true)]) (rest := [.int (b2i (tellS S (xs (i + 1)) true).2)]) F A1 rfl rfl (by decide +kernel) (List.mem_of_getElem? (i := 1986) (by decide +kernel)) (em_obj (show sh 203 12 68 from rfl) (by decide)) rfl (by decide) rfl rfl hl.1 (Nat.le_of_ble_eq_true rfl) d_law_893 ?_ hR
    refine R_tell iR1 w (fun u2 o2 iR2 => lw_kI (r := (b2i (tellS S (xs (i + 1)) true).2)) (fun H2 locs2 A2 => ?_))
    refine lv_icmp_eq (tgt := 1226) hx hb d_law_896 rfl (fun _ => ?_) (fun q => absurd rfl q)
    exact k _ _ _ _ _ _ (lw_Inv_of I o1 iC1 o2 iR2 (WS_tell w (xs (i + 1)) true) (by unfold tellS; (repeat' split) <;> rfl)) A2
theorem lw_c20 (F : lw_Fx p s mi meth c bs Ln xs) (hbb : bs < b) (A : am_At false b sa D dA (Zs b sa av) s (am_emb u) H locs) (hl : lv_has LS 7 (lw_ls b bs i)) (hi : i + 7 ≤ Ln) (hR : cells ≤ 601024 ∧ slots ≤ 7293034) (I : lw_Inv u S L L') : lw_Case p l e s mi below meth c Q b sa av bs D dA 901 LS H locs cells slots := by
  intro k
  have hx := F.1
  have hb := F.2.1
  obtain ⟨iC, nC, iR, nR, w⟩ := id I
  refine lv_aload_n hx hb d_law_901 rfl (lv_at hl 1 rfl) ?_
  refine lw_el (k := 1) F A hbb hl (by omega) rfl d_law_902 d_law_903 d_law_905 d_law_906 d_law_907 ?_
  refine lw_el (k := 2) F A hbb hl (by omega) rfl d_law_908 d_law_909 d_law_911 d_law_912 d_law_913 ?_
  refine lw_callV (idx := 113) (z := 136) (a := 0) (ci := 11) (As := [.int (xs (i + 1)), .int (xs (i + 2))]) (rest := []) F A rfl rfl (by decide +kernel) (List.mem_of_getElem? (i := 1153) (by decide +kernel)) (em_obj (show sh 0 11 16 from rfl) (by decide)) rfl (by decide) rfl rfl hl.1 (Nat.le_of_ble_eq_true rfl) d_law_914 ?_ hR
  refine C_guessed iC w (fun u1 o1 iC1 => lw_kI (r := (guessS S (xs (i + 1)) (xs (i + 2)))) (fun H1 locs1 A1 => ?_))
  have iR1 := lw_R I o1
  refine lv_aload_n hx hb d_law_917 rfl (lv_at hl 2 rfl) ?_
  refine lw_el (k := 1) F A1 hbb hl (by omega) rfl d_law_918 d_law_919 d_law_921 d_law_922 d_law_923 ?_
  refine lw_el (k := 2) F A1 hbb hl (by omega) rfl d_law_924 d_law_925 d_law_927 d_law_928 d_law_929 ?_
  refine lw_callV (idx := 116) (z := 257) (a := 203) (ci := 12) (As := [.int (xs (i + 1)), .int (xs (i + 2))]) (rest := [.int (guessS S (xs (i + 1)) (xs (i + 2)))]) F A1 rfl rfl (by decide +kernel) (List.mem_of_getElem? (i := 1990) (by decide +kernel)) (em_obj (show sh 203 12 68 from rfl) (by decide)) rfl (by decide) rfl rfl hl.1 (Nat.le_of_ble_eq_true rfl) d_law_930 ?_ hR
  refine R_guessed iR1 w (fun u2 o2 iR2 => lw_kI (r := (guessS S (xs (i + 1)) (xs (i + 2)))) (fun H2 locs2 A2 => ?_))
  refine lv_icmp_eq (tgt := 1226) hx hb d_law_933 rfl (fun _ => ?_) (fun q => absurd rfl q)
  exact k _ _ _ _ _ _ (lw_Inv_of I o1 iC1 o2 iR2 w rfl) A2
theorem lw_c21 (F : lw_Fx p s mi meth c bs Ln xs) (hbb : bs < b) (A : am_At false b sa D dA (Zs b sa av) s (am_emb u) H locs) (hl : lv_has LS 7 (lw_ls b bs i)) (hi : i + 7 ≤ Ln) (hR : cells ≤ 601024 ∧ slots ≤ 7293034) (I : lw_Inv u S L L') : lw_Case p l e s mi below meth c Q b sa av bs D dA 938 LS H locs cells slots := by
  intro k
  have hx := F.1
  have hb := F.2.1
  obtain ⟨iC, nC, iR, nR, w⟩ := id I
  refine lv_aload_n hx hb d_law_938 rfl (lv_at hl 1 rfl) ?_
  refine lw_el (k := 1) F A hbb hl (by omega) rfl d_law_939 d_law_940 d_law_942 d_law_943 d_law_944 ?_
  refine lw_callV (idx := 117) (z := 137) (a := 0) (ci := 11) (As := [.int (xs (i + 1))]) (rest := []) F A rfl rfl (by decide +kernel) (List.mem_of_getElem? (i := 1171) (by decide +kernel)) (em_obj (show sh 0 11 16 from rfl) (by decide)) rfl (by decide) rfl rfl hl.1 (Nat.le_of_ble_eq_true rfl) d_law_945 ?_ hR
  refine wC_unlearn iC w (fun u1 o1 iC1 => lw_kI (r := (unlearnS S (xs (i + 1)))) (fun H1 locs1 A1 => ?_))
  have iR1 := lw_R I o1
  refine lv_aload_n hx hb d_law_948 rfl (lv_at hl 2 rfl) ?_
  refine lw_el (k := 1) F A1 hbb hl (by omega) rfl d_law_949 d_law_950 d_law_952 d_law_953 d_law_954 ?_
  refine lw_callV (idx := 120) (z := 259) (a := 203) (ci := 12) (As := [.int (xs (i + 1))]) (rest := [.int (unlearnS S (xs (i + 1)))]) F A1 rfl rfl (by decide +kernel) (List.mem_of_getElem? (i := 2002) (by decide +kernel)) (em_obj (show sh 203 12 68 from rfl) (by decide)) rfl (by decide) rfl rfl hl.1 (Nat.le_of_ble_eq_true rfl) d_law_955 ?_ hR
  refine wR_unlearn iR1 w (fun u2 o2 iR2 => lw_kI (r := (unlearnS S (xs (i + 1)))) (fun H2 locs2 A2 => ?_))
  refine lv_icmp_eq (tgt := 1226) hx hb d_law_958 rfl (fun _ => ?_) (fun q => absurd rfl q)
  exact k _ _ _ _ _ _ (lw_Inv_of I o1 iC1 o2 iR2 w rfl) A2
theorem lw_c22 (F : lw_Fx p s mi meth c bs Ln xs) (hbb : bs < b) (A : am_At false b sa D dA (Zs b sa av) s (am_emb u) H locs) (hl : lv_has LS 7 (lw_ls b bs i)) (hi : i + 7 ≤ Ln) (hR : cells ≤ 601024 ∧ slots ≤ 7293034) (I : lw_Inv u S L L') : lw_Case p l e s mi below meth c Q b sa av bs D dA 963 LS H locs cells slots := by
  intro k
  have hx := F.1
  have hb := F.2.1
  obtain ⟨iC, nC, iR, nR, w⟩ := id I
  refine lv_aload_n hx hb d_law_963 rfl (lv_at hl 1 rfl) ?_
  refine lw_el (k := 1) F A hbb hl (by omega) rfl d_law_964 d_law_965 d_law_967 d_law_968 d_law_969 ?_
  refine lw_callV (idx := 121) (z := 138) (a := 0) (ci := 11) (As := [.int (xs (i + 1))]) (rest := []) F A rfl rfl (by decide +kernel) (List.mem_of_getElem? (i := 1187) (by decide +kernel)) (em_obj (show sh 0 11 16 from rfl) (by decide)) rfl (by decide) rfl rfl hl.1 (Nat.le_of_ble_eq_true rfl) d_law_970 ?_ hR
  refine wC_lies iC w (fun u1 o1 iC1 => lw_kI (r := (liesS S.1 (xs (i + 1)))) (fun H1 locs1 A1 => ?_))
  have iR1 := lw_R I o1
  refine lv_aload_n hx hb d_law_973 rfl (lv_at hl 2 rfl) ?_
  refine lw_el (k := 1) F A1 hbb hl (by omega) rfl d_law_974 d_law_975 d_law_977 d_law_978 d_law_979 ?_
  refine lw_callV (idx := 124) (z := 260) (a := 203) (ci := 12) (As := [.int (xs (i + 1))]) (rest := [.int (liesS S.1 (xs (i + 1)))]) F A1 rfl rfl (by decide +kernel) (List.mem_of_getElem? (i := 2010) (by decide +kernel)) (em_obj (show sh 203 12 68 from rfl) (by decide)) rfl (by decide) rfl rfl hl.1 (Nat.le_of_ble_eq_true rfl) d_law_980 ?_ hR
  refine wR_lies iR1 w (fun u2 o2 iR2 => lw_kI (r := (liesS S.1 (xs (i + 1)))) (fun H2 locs2 A2 => ?_))
  refine lv_icmp_eq (tgt := 1226) hx hb d_law_983 rfl (fun _ => ?_) (fun q => absurd rfl q)
  exact k _ _ _ _ _ _ (lw_Inv_of I o1 iC1 o2 iR2 w rfl) A2
theorem lw_c23 (F : lw_Fx p s mi meth c bs Ln xs) (hbb : bs < b) (A : am_At false b sa D dA (Zs b sa av) s (am_emb u) H locs) (hl : lv_has LS 7 (lw_ls b bs i)) (hi : i + 7 ≤ Ln) (hR : cells ≤ 601024 ∧ slots ≤ 7293034) (I : lw_Inv u S L L') : lw_Case p l e s mi below meth c Q b sa av bs D dA 988 LS H locs cells slots := by
  intro k
  have hx := F.1
  have hb := F.2.1
  obtain ⟨iC, nC, iR, nR, w⟩ := id I
  refine lv_aload_n hx hb d_law_988 rfl (lv_at hl 1 rfl) ?_
  refine lw_el (k := 1) F A hbb hl (by omega) rfl d_law_989 d_law_990 d_law_992 d_law_993 d_law_994 ?_
  refine lw_el (k := 2) F A hbb hl (by omega) rfl d_law_995 d_law_996 d_law_998 d_law_999 d_law_1000 ?_
  refine lw_callV (idx := 125) (z := 139) (a := 0) (ci := 11) (As := [.int (xs (i + 1)), .int (xs (i + 2))]) (rest := []) F A rfl rfl (by decide +kernel) (List.mem_of_getElem? (i := 1203) (by decide +kernel)) (em_obj (show sh 0 11 16 from rfl) (by decide)) rfl (by decide) rfl rfl hl.1 (Nat.le_of_ble_eq_true rfl) d_law_1001 ?_ hR
  refine C_rests iC w (fun u1 o1 iC1 => lw_kI (r := (restsS S (xs (i + 1)) (xs (i + 2)))) (fun H1 locs1 A1 => ?_))
  have iR1 := lw_R I o1
  refine lv_aload_n hx hb d_law_1004 rfl (lv_at hl 2 rfl) ?_
  refine lw_el (k := 1) F A1 hbb hl (by omega) rfl d_law_1005 d_law_1006 d_law_1008 d_law_1009 d_law_1010 ?_
  refine lw_el (k := 2) F A1 hbb hl (by omega) rfl d_law_1011 d_law_1012 d_law_1014 d_law_1015 d_law_1016 ?_
  refine lw_callV (idx := 128) (z := 263) (a := 203) (ci := 12) (As := [.int (xs (i + 1)), .int (xs (i + 2))]) (rest := [.int (restsS S (xs (i + 1)) (xs (i + 2)))]) F A1 rfl rfl (by decide +kernel) (List.mem_of_getElem? (i := 2014) (by decide +kernel)) (em_obj (show sh 203 12 68 from rfl) (by decide)) rfl (by decide) rfl rfl hl.1 (Nat.le_of_ble_eq_true rfl) d_law_1017 ?_ hR
  refine R_rests iR1 w (fun u2 o2 iR2 => lw_kI (r := (restsS S (xs (i + 1)) (xs (i + 2)))) (fun H2 locs2 A2 => ?_))
  refine lv_icmp_eq (tgt := 1226) hx hb d_law_1020 rfl (fun _ => ?_) (fun q => absurd rfl q)
  exact k _ _ _ _ _ _ (lw_Inv_of I o1 iC1 o2 iR2 w rfl) A2
theorem lw_c24 (F : lw_Fx p s mi meth c bs Ln xs) (hbb : bs < b) (A : am_At false b sa D dA (Zs b sa av) s (am_emb u) H locs) (hl : lv_has LS 7 (lw_ls b bs i)) (hi : i + 7 ≤ Ln) (hR : cells ≤ 601024 ∧ slots ≤ 7293034) (I : lw_Inv u S L L') : lw_Case p l e s mi below meth c Q b sa av bs D dA 1025 LS H locs cells slots := by
  intro k
  have hx := F.1
  have hb := F.2.1
  obtain ⟨iC, nC, iR, nR, w⟩ := id I
  refine lv_aload_n hx hb d_law_1025 rfl (lv_at hl 1 rfl) ?_
  refine lw_el (k := 1) F A hbb hl (by omega) rfl d_law_1026 d_law_1027 d_law_1029 d_law_1030 d_law_1031 ?_
  refine lw_el (k := 2) F A hbb hl (by omega) rfl d_law_1032 d_law_1033 d_law_1035 d_law_1036 d_law_1037 ?_
  refine lw_callV (idx := 129) (z := 140) (a := 0) (ci := 11) (As := [.int (xs (i + 1)), .int (xs (i + 2))]) (rest := []) F A rfl rfl (by decide +kernel) (List.mem_of_getElem? (i := 1241) (by decide +kernel)) (em_obj (show sh 0 11 16 from rfl) (by decide)) rfl (by decide) rfl rfl hl.1 (Nat.le_of_ble_eq_true rfl) d_law_1038 ?_ hR
  refine C_hands iC w (fun u1 o1 iC1 => lw_kI (r := (handsS S (xs (i + 1)) (xs (i + 2)))) (fun H1 locs1 A1 => ?_))
  have iR1 := lw_R I o1
  refine lv_aload_n hx hb d_law_1041 rfl (lv_at hl 2 rfl) ?_
  refine lw_el (k := 1) F A1 hbb hl (by omega) rfl d_law_1042 d_law_1043 d_law_1045 d_law_1046 d_law_1047 ?_
  refine lw_el (k := 2) F A1 hbb hl (by omega) rfl d_law_1048 d_law_1049 d_law_1051 d_law_1052 d_law_1053 ?_
  refine lw_callV (idx := 132) (z := 266) (a := 203) (ci := 12) (As := [.int (xs (i + 1)), .int (xs (i + 2))]) (rest := [.int (handsS S (xs (i + 1)) (xs (i + 2)))]) F A1 rfl rfl (by decide +kernel) (List.mem_of_getElem? (i := 2030) (by decide +kernel)) (em_obj (show sh 203 12 68 from rfl) (by decide)) rfl (by decide) rfl rfl hl.1 (Nat.le_of_ble_eq_true rfl) d_law_1054 ?_ hR
  refine R_hands iR1 w (fun u2 o2 iR2 => lw_kI (r := (handsS S (xs (i + 1)) (xs (i + 2)))) (fun H2 locs2 A2 => ?_))
  refine lv_icmp_eq (tgt := 1226) hx hb d_law_1057 rfl (fun _ => ?_) (fun q => absurd rfl q)
  exact k _ _ _ _ _ _ (lw_Inv_of I o1 iC1 o2 iR2 w rfl) A2
theorem lw_c25 (F : lw_Fx p s mi meth c bs Ln xs) (hbb : bs < b) (A : am_At false b sa D dA (Zs b sa av) s (am_emb u) H locs) (hl : lv_has LS 7 (lw_ls b bs i)) (hi : i + 7 ≤ Ln) (hR : cells ≤ 601024 ∧ slots ≤ 7293034) (I : lw_Inv u S L L') : lw_Case p l e s mi below meth c Q b sa av bs D dA 1062 LS H locs cells slots := by
  intro k
  have hx := F.1
  have hb := F.2.1
  obtain ⟨iC, nC, iR, nR, w⟩ := id I
  refine lv_aload_n hx hb d_law_1062 rfl (lv_at hl 1 rfl) ?_
  refine lw_el (k := 1) F A hbb hl (by omega) rfl d_law_1063 d_law_1064 d_law_1066 d_law_1067 d_law_1068 ?_
  refine lw_el (k := 2) F A hbb hl (by omega) rfl d_law_1069 d_law_1070 d_law_1072 d_law_1073 d_law_1074 ?_
  refine lw_callV (idx := 133) (z := 141) (a := 0) (ci := 11) (As := [.int (xs (i + 1)), .int (xs (i + 2))]) (rest := []) F A rfl rfl (by decide +kernel) (List.mem_of_getElem? (i := 1272) (by decide +kernel)) (em_obj (show sh 0 11 16 from rfl) (by decide)) rfl (by decide) rfl rfl hl.1 (Nat.le_of_ble_eq_true rfl) d_law_1075 ?_ hR
  refine wC_price iC w (fun u1 o1 iC1 => lw_kI (r := (priceS S (xs (i + 1)) (xs (i + 2)))) (fun H1 locs1 A1 => ?_))
  have iR1 := lw_R I o1
  refine lv_aload_n hx hb d_law_1078 rfl (lv_at hl 2 rfl) ?_
  refine lw_el (k := 1) F A1 hbb hl (by omega) rfl d_law_1079 d_law_1080 d_law_1082 d_law_1083 d_law_1084 ?_
  refine lw_el (k := 2) F A1 hbb hl (by omega) rfl d_law_1085 d_law_1086 d_law_1088 d_law_1089 d_law_1090 ?_
  refine lw_callV (idx := 136) (z := 267) (a := 203) (ci := 12) (As := [.int (xs (i + 1)), .int (xs (i + 2))]) (rest := [.int (priceS S (xs (i + 1)) (xs (i + 2)))]) F A1 rfl rfl (by decide +kernel) (List.mem_of_getElem? (i := 2046) (by decide +kernel)) (em_obj (show sh 203 12 68 from rfl) (by decide)) rfl (by decide) rfl rfl hl.1 (Nat.le_of_ble_eq_true rfl) d_law_1091 ?_ hR
  refine wR_price iR1 w (fun u2 o2 iR2 => lw_kI (r := (priceS S (xs (i + 1)) (xs (i + 2)))) (fun H2 locs2 A2 => ?_))
  refine lv_icmp_eq (tgt := 1226) hx hb d_law_1094 rfl (fun _ => ?_) (fun q => absurd rfl q)
  exact k _ _ _ _ _ _ (lw_Inv_of I o1 iC1 o2 iR2 w rfl) A2
theorem lw_c26 (F : lw_Fx p s mi meth c bs Ln xs) (hbb : bs < b) (A : am_At false b sa D dA (Zs b sa av) s (am_emb u) H locs) (hl : lv_has LS 7 (lw_ls b bs i)) (hi : i + 7 ≤ Ln) (hR : cells ≤ 601024 ∧ slots ≤ 7293034) (I : lw_Inv u S L L') : lw_Case p l e s mi below meth c Q b sa av bs D dA 1099 LS H locs cells slots := by
  intro k
  have hx := F.1
  have hb := F.2.1
  obtain ⟨iC, nC, iR, nR, w⟩ := id I
  refine lv_aload_n hx hb d_law_1099 rfl (lv_at hl 1 rfl) ?_
  refine lw_el (k := 1) F A hbb hl (by omega) rfl d_law_1100 d_law_1101 d_law_1103 d_law_1104 d_law_1105 ?_
  refine lw_el (k := 2) F A hbb hl (by omega) rfl d_law_1106 d_law_1107 d_law_1109 d_law_1110 d_law_1111 ?_
  refine lw_el (k := 3) F A hbb hl (by omega) rfl d_law_1112 d_law_1113 d_law_1115 d_law_1116 d_law_1117 ?_
  refine lw_callV (idx := 137) (z := 142) (a := 0) (ci := 11) (As := [.int (xs (i + 1)), .int (xs (i + 2)), .int (xs (i + 3))]) (rest := []) F A rfl rfl (by decide +kernel) (List.mem_of_getElem? (i := 1277) (by decide +kernel)) (em_obj (show sh 0 11 16 from rfl) (by decide)) rfl (by decide) rfl rfl hl.1 (Nat.le_of_ble_eq_true rfl) d_law_1118 ?_ hR
  refine C_years iC w (fun u1 o1 iC1 => lw_kI (r := (yearsS S (xs (i + 1)) (xs (i + 2)) (xs (i + 3)))) (fun H1 locs1 A1 => ?_))
  have iR1 := lw_R I o1
  refine lv_aload_n hx hb d_law_1121 rfl (lv_at hl 2 rfl) ?_
  refine lw_el (k := 1) F A1 hbb hl (by omega) rfl d_law_1122 d_law_1123 d_law_1125 d_law_1126 d_law_1127 ?_
  refine lw_el (k := 2) F A1 hbb hl (by omega) rfl d_law_1128 d_law_1129 d_law_1131 d_law_1132 d_law_1133 ?_
  refine lw_el (k := 3) F A1 hbb hl (by omega) rfl d_law_1134 d_law_1135 d_law_1137 d_law_1138 d_law_1139 ?_
  refine lw_callV (idx := 140) (z := 269) (a := 203) (ci := 12) (As := [.int (xs (i + 1)), .int (xs (i + 2)), .int (xs (i + 3))]) (rest := [.int (yearsS S (xs (i + 1)) (xs (i + 2)) (xs (i + 3)))]) F A1 rfl rfl (by decide +kernel) (List.mem_of_getElem? (i := 2050) (by decide +kernel)) (em_obj (show sh 203 12 68 from rfl) (by decide)) rfl (by decide) rfl rfl hl.1 (Nat.le_of_ble_eq_true rfl) d_law_1140 ?_ hR
  refine R_years iR1 w (fun u2 o2 iR2 => lw_kI (r := (yearsS S (xs (i + 1)) (xs (i + 2)) (xs (i + 3)))) (fun H2 locs2 A2 => ?_))
  refine lv_icmp_eq (tgt := 1226) hx hb d_law_1143 rfl (fun _ => ?_) (fun q => absurd rfl q)
  exact k _ _ _ _ _ _ (lw_Inv_of I o1 iC1 o2 iR2 w rfl) A2
theorem lw_c27 (F : lw_Fx p s mi meth c bs Ln xs) (hbb : bs < b) (A : am_At false b sa D dA (Zs b sa av) s (am_emb u) H locs) (hl : lv_has LS 7 (lw_ls b bs i)) (hi : i + 7 ≤ Ln) (hR : cells ≤ 601024 ∧ slots ≤ 7293034) (I : lw_Inv u S L L') : lw_Case p l e s mi below meth c Q b sa av bs D dA 1148 LS H locs cells slots := by
  intro k
  have hx := F.1
  have hb := F.2.1
  obtain ⟨iC, nC, iR, nR, w⟩ := id I
  by_cases hz : xs (i + 2) = 0
  · refine lv_aload_n hx hb d_law_1148 rfl (lv_at hl 1 rfl) ?_
    refine lw_el (k := 1) F A hbb hl (by omega) rfl d_law_1149 d_law_1150 d_law_1152 d_law_1153 d_law_1154 ?_
    refine lw_el (k := 2) F A hbb hl (by omega) rfl d_law_1155 d_law_1156 d_law_1158 d_law_1159 d_law_1160 ?_
    refine lv_if_eq (tgt := 1168) hx hb d_law_1161 rfl (fun _ => ?_) (fun q => absurd hz q)
    refine lv_iconst (v := b2i false) hx hb d_law_1168 rfl ?_
    refine lw_callV (idx := 141) (z := 143) (a := 0) (ci := 11) (As := [.int (xs (i + 1)), .int (b2i false)]) (rest := []) F A rfl rfl (by decide +kernel) (List.mem_of_getElem? (i := 1291) (by decide +kernel)) (em_obj (show sh 0 11 16 from rfl) (by decide)) rfl (by decide) rfl rfl hl.1 (Nat.le_of_ble_eq_true rfl) d_law_1169 ?_ hR
    refine C_mark iC w (fun u1 o1 iC1 => lw_kI (r := (b2i (markS S (xs (i + 1)) false).2)) (fun H1 locs1 A1 => ?_))
    have iR1 := lw_R I o1
    refine lv_aload_n hx hb d_law_1172 rfl (lv_at hl 2 rfl) ?_
    refine lw_el (k := 1) F A1 hbb hl (by omega) rfl d_law_1173 d_law_1174 d_law_1176 d_law_1177 d_law_1178 ?_
    refine lw_el (k := 2) F A1 hbb hl (by omega) rfl d_law_1179 d_law_1180 d_law_1182 d_law_1183 d_law_1184 ?_
    refine lv_if_eq (tgt := 1192) hx hb d_law_1185 rfl (fun _ => ?_) (fun q => absurd hz q)
    refine lv_iconst (v := b2i false) hx hb d_law_1192 rfl ?_
    refine lw_callV (idx := 144) (z := 270) (a := 203) (ci := 12) (As := [.int (xs (i + 1)), .int (b2i false)]) (rest := [.int (b2i (markS S (xs (i + 1)) false).2)]) F A1 rfl rfl (by decide +kernel) (List.mem_of_getElem? (i := 2062) (by decide +kernel)) (em_obj (show sh 203 12 68 from rfl) (by decide)) rfl (by decide) rfl rfl hl.1 (Nat.le_of_ble_eq_true rfl) d_law_1193 ?_ hR
    refine R_mark iR1 w (fun u2 o2 iR2 => lw_kI (r := (b2i (markS S (xs (i + 1)) false).2)) (fun H2 locs2 A2 => ?_))
    refine lv_icmp_eq (tgt := 1226) hx hb d_law_1196 rfl (fun _ => ?_) (fun q => absurd rfl q)
    exact k _ _ _ _ _ _ (lw_Inv_of I o1 iC1 o2 iR2 (WS_mark w (xs (i + 1)) false) (by unfold markS; (repeat' split) <;> rfl)) A2
  · refine lv_aload_n hx hb d_law_1148 rfl (lv_at hl 1 rfl) ?_
    refine lw_el (k := 1) F A hbb hl (by omega) rfl d_law_1149 d_law_1150 d_law_1152 d_law_1153 d_law_1154 ?_
    refine lw_el (k := 2) F A hbb hl (by omega) rfl d_law_1155 d_law_1156 d_law_1158 d_law_1159 d_law_1160 ?_
    refine lv_if_eq (tgt := 1168) hx hb d_law_1161 rfl (fun q => absurd q hz) (fun _ => ?_)
    refine lv_iconst (v := b2i true) hx hb d_law_1164 rfl ?_
    refine lv_goto (tgt := 1169) hx hb d_law_1165 rfl ?_
    refine lw_callV (idx := 141) (z := 143) (a := 0) (ci := 11) (As := [.int (xs (i + 1)), .int (b2i true)]) (rest := []) F A rfl rfl (by decide +kernel) (List.mem_of_getElem? (i := 1291) (by decide +kernel)) (em_obj (show sh 0 11 16 from rfl) (by decide)) rfl (by decide) rfl rfl hl.1 (Nat.le_of_ble_eq_true rfl) d_law_1169 ?_ hR
    refine C_mark iC w (fun u1 o1 iC1 => lw_kI (r := (b2i (markS S (xs (i + 1)) true).2)) (fun H1 locs1 A1 => ?_))
    have iR1 := lw_R I o1
    refine lv_aload_n hx hb d_law_1172 rfl (lv_at hl 2 rfl) ?_
    refine lw_el (k := 1) F A1 hbb hl (by omega) rfl d_law_1173 d_law_1174 d_law_1176 d_law_1177 d_law_1178 ?_
    refine lw_el (k := 2) F A1 hbb hl (by omega) rfl d_law_1179 d_law_1180 d_law_1182 d_law_1183 d_law_1184 ?_
    refine lv_if_eq (tgt := 1192) hx hb d_law_1185 rfl (fun q => absurd q hz) (fun _ => ?_)
    refine lv_iconst (v := b2i true) hx hb d_law_1188 rfl ?_
    refine lv_goto (tgt := 1193) hx hb d_law_1189 rfl ?_
    refine lw_callV (idx := 144) (z := 270) (a := 203) (ci := 12) (As := [.int (xs (i + 1)), .int (b2i true)]) (rest := [.int (b2i (markS S (xs (i + 1)) true).2)]) F A1 rfl rfl (by decide +kernel) (List.mem_of_getElem? (i := 2062) (by decide +kernel)) (em_obj (show sh 203 12 68 from rfl) (by decide)) rfl (by decide) rfl rfl hl.1 (Nat.le_of_ble_eq_true rfl) d_law_1193 ?_ hR
    refine R_mark iR1 w (fun u2 o2 iR2 => lw_kI (r := (b2i (markS S (xs (i + 1)) true).2)) (fun H2 locs2 A2 => ?_))
    refine lv_icmp_eq (tgt := 1226) hx hb d_law_1196 rfl (fun _ => ?_) (fun q => absurd rfl q)
    exact k _ _ _ _ _ _ (lw_Inv_of I o1 iC1 o2 iR2 (WS_mark w (xs (i + 1)) true) (by unfold markS; (repeat' split) <;> rfl)) A2
theorem lw_c28 (F : lw_Fx p s mi meth c bs Ln xs) (hbb : bs < b) (A : am_At false b sa D dA (Zs b sa av) s (am_emb u) H locs) (hl : lv_has LS 7 (lw_ls b bs i)) (hi : i + 7 ≤ Ln) (hR : cells ≤ 601024 ∧ slots ≤ 7293034) (I : lw_Inv u S L L') : lw_Case p l e s mi below meth c Q b sa av bs D dA 1201 LS H locs cells slots := by
  intro k
  have hx := F.1
  have hb := F.2.1
  obtain ⟨iC, nC, iR, nR, w⟩ := id I
  refine lv_aload_n hx hb d_law_1201 rfl (lv_at hl 1 rfl) ?_
  refine lw_el (k := 1) F A hbb hl (by omega) rfl d_law_1202 d_law_1203 d_law_1205 d_law_1206 d_law_1207 ?_
  refine lw_callV (idx := 145) (z := 144) (a := 0) (ci := 11) (As := [.int (xs (i + 1))]) (rest := []) F A rfl rfl (by decide +kernel) (List.mem_of_getElem? (i := 1301) (by decide +kernel)) (em_obj (show sh 0 11 16 from rfl) (by decide)) rfl (by decide) rfl rfl hl.1 (Nat.le_of_ble_eq_true rfl) d_law_1208 ?_ hR
  refine wC_count iC w (fun u1 o1 iC1 => lw_kI (r := (countS S (xs (i + 1)))) (fun H1 locs1 A1 => ?_))
  have iR1 := lw_R I o1
  refine lv_aload_n hx hb d_law_1211 rfl (lv_at hl 2 rfl) ?_
  refine lw_el (k := 1) F A1 hbb hl (by omega) rfl d_law_1212 d_law_1213 d_law_1215 d_law_1216 d_law_1217 ?_
  refine lw_callV (idx := 148) (z := 271) (a := 203) (ci := 12) (As := [.int (xs (i + 1))]) (rest := [.int (countS S (xs (i + 1)))]) F A1 rfl rfl (by decide +kernel) (List.mem_of_getElem? (i := 2070) (by decide +kernel)) (em_obj (show sh 203 12 68 from rfl) (by decide)) rfl (by decide) rfl rfl hl.1 (Nat.le_of_ble_eq_true rfl) d_law_1218 ?_ hR
  refine wR_count iR1 w (fun u2 o2 iR2 => lw_kI (r := (countS S (xs (i + 1)))) (fun H2 locs2 A2 => ?_))
  refine lv_icmp_eq (tgt := 1226) hx hb d_law_1221 rfl (fun _ => ?_) (fun q => absurd rfl q)
  exact k _ _ _ _ _ _ (lw_Inv_of I o1 iC1 o2 iR2 w rfl) A2
end Cases
