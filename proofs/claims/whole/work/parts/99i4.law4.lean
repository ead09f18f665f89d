/-! the law: the cases that call a helper -/
def KK (Z : ZP) (k n i : Nat) : Prop := ∀ (wD wM : List va_E) (f : Nat → Int) (v b v2 b2 t : Nat), DW qM cM v b v2 b2 wD → RS v b v2 b2 t wM → Z (k + 1) (n + 6) (LW wD wM f) (lv5 i) 1220 []
section ZLs
variable {Z : ZP} {L : Nat} {xs : Nat → Int32} {k n : Nat} {wD wM : List va_E} {f : Nat → Int} {v b v2 b2 t : Nat}
set_option maxRecDepth 100000 in
theorem cs_mill (h : Cl Z L xs) {i : Nat} (hi : i + 7 ≤ L) (hL : L < 2 ^ 31) (hD : DW qM cM v b v2 b2 wD) (hR : RS v b v2 b2 t wM) (hk : k + 1 ≤ 601024) (hn : n + 6 ≤ 7293034) (kk : KK Z k n i) : Z k n (LW wD wM f) (lv5 i) 128 [] := by
  have hl0 : (LW wD wM f).length ≤ pS := by rw [LW_len (DW_len hD) (RS_len hR)]; decide
  refine z_aload_n h.b d_L_law_128 rfl ?_
  refine z_sc (j := 1) h hl0 (by omega) hL rfl rfl (by decide) d_L_law_129 d_L_law_130 d_L_law_132 d_L_law_133 d_L_law_134 ?_
  refine z_sc (j := 2) h hl0 (by omega) hL rfl rfl (by decide) d_L_law_135 d_L_law_136 d_L_law_138 d_L_law_139 d_L_law_140 ?_
  refine z_sc (j := 3) h hl0 (by omega) hL rfl rfl (by decide) d_L_law_141 d_L_law_142 d_L_law_144 d_L_law_145 d_L_law_146 ?_
  refine z_aload_n h.b d_L_law_147 rfl ?_
  obtain ⟨k9, v', b', v2', b2', o', a, hk9, ho, hH, hM⟩ := p_mill (xs (i + 1)) (xs (i + 2)) (xs (i + 3)) v b v2 b2 t (f 0) (wD ++ [al 1 f]) wM ⟨wD, f, rfl, hD, rfl⟩ hR
  refine z_help h hH hD (RS_len hR) wcw_L_mill rfl (by show _ = some 5; decide +kernel) (by decide) wm_L_69 wt_L_mill d_L_law_148 hk hn rfl (fun wD' f' hD' hf' => ?_)
  have hl1 : (LW wD' wM f').length ≤ pS := by rw [LW_len (DW_len hD') (RS_len hR)]; decide
  refine z_istore h.b d_L_law_151 (by decide) ?_
  refine z_lv (lv' := lv6 i (nI k9)) h.b rfl ?_
  refine z_aload_n h.b d_L_law_153 rfl ?_
  refine z_sc (j := 1) h hl1 (by omega) hL rfl rfl (by decide) d_L_law_154 d_L_law_155 d_L_law_157 d_L_law_158 d_L_law_159 ?_
  refine z_sc (j := 2) h hl1 (by omega) hL rfl rfl (by decide) d_L_law_160 d_L_law_161 d_L_law_163 d_L_law_164 d_L_law_165 ?_
  refine z_sc (j := 3) h hl1 (by omega) hL rfl rfl (by decide) d_L_law_166 d_L_law_167 d_L_law_169 d_L_law_170 d_L_law_171 ?_
  refine z_mod h hM (DW_len hD') hR (zf_M_mill (by decide)) wm_L_74 wi_M_mill ws_M_mill d_L_law_172 hk hn rfl (Nat.zero_le _) rfl (fun wM' hR' => ?_)
  refine z_istore h.b d_L_law_175 (by decide) ?_
  refine z_lv (lv' := lv7 i (nI k9) a) h.b rfl ?_
  exact z_tail h (DW_len hD') hR' hk9 (fun q => by rw [hf', ho q]) hk hn d_L_law_177 d_L_law_178 d_L_law_181 d_L_law_183 d_L_law_188 d_L_law_190 d_L_law_193 d_L_law_194 d_L_law_195 d_L_law_196 d_L_law_198 d_L_law_199 d_L_law_200 d_L_law_205 (by decide) (fun wM'' hR'' => kk _ _ _ _ _ _ _ _ hD' hR'')
set_option maxRecDepth 100000 in
theorem cs_root (h : Cl Z L xs) {i : Nat} (hi : i + 7 ≤ L) (hL : L < 2 ^ 31) (hD : DW qM cM v b v2 b2 wD) (hR : RS v b v2 b2 t wM) (hk : k + 1 ≤ 601024) (hn : n + 6 ≤ 7293034) (kk : KK Z k n i) : Z k n (LW wD wM f) (lv5 i) 208 [] := by
  have hl0 : (LW wD wM f).length ≤ pS := by rw [LW_len (DW_len hD) (RS_len hR)]; decide
  refine z_aload_n h.b d_L_law_208 rfl ?_
  refine z_sl (j := 1) h hl0 (by omega) hL rfl rfl (by decide) (by decide) d_L_law_209 d_L_law_210 d_L_law_212 d_L_law_213 d_L_law_214 d_L_law_215 d_L_law_216 d_L_law_218 d_L_law_219 d_L_law_220 d_L_law_222 d_L_law_223 d_L_law_224 d_L_law_225 d_L_law_226 d_L_law_229 d_L_law_230 ?_
  refine z_sc (j := 3) h hl0 (by omega) hL rfl rfl (by decide) d_L_law_231 d_L_law_232 d_L_law_234 d_L_law_235 d_L_law_236 ?_
  refine z_sc (j := 4) h hl0 (by omega) hL rfl rfl (by decide) d_L_law_237 d_L_law_238 d_L_law_240 d_L_law_241 d_L_law_242 ?_
  refine z_aload_n h.b d_L_law_243 rfl ?_
  obtain ⟨k9, v', b', v2', b2', o', a, hk9, ho, hH, hM⟩ := p_root (lo2 (xs (i + 1)) (xs (i + 2))) (xs (i + 3)) (xs (i + 4)) v b v2 b2 t (f 0) (wD ++ [al 1 f]) wM ⟨wD, f, rfl, hD, rfl⟩ hR
  refine z_help h hH hD (RS_len hR) wcw_L_root rfl (by show _ = some 5; decide +kernel) (by decide) wm_L_80 wt_L_root d_L_law_244 hk hn rfl (fun wD' f' hD' hf' => ?_)
  have hl1 : (LW wD' wM f').length ≤ pS := by rw [LW_len (DW_len hD') (RS_len hR)]; decide
  refine z_istore h.b d_L_law_247 (by decide) ?_
  refine z_lv (lv' := lv6 i (nI k9)) h.b rfl ?_
  refine z_aload_n h.b d_L_law_249 rfl ?_
  refine z_sl (j := 1) h hl1 (by omega) hL rfl rfl (by decide) (by decide) d_L_law_250 d_L_law_251 d_L_law_253 d_L_law_254 d_L_law_255 d_L_law_256 d_L_law_257 d_L_law_259 d_L_law_260 d_L_law_261 d_L_law_263 d_L_law_264 d_L_law_265 d_L_law_266 d_L_law_267 d_L_law_270 d_L_law_271 ?_
  refine z_sc (j := 3) h hl1 (by omega) hL rfl rfl (by decide) d_L_law_272 d_L_law_273 d_L_law_275 d_L_law_276 d_L_law_277 ?_
  refine z_sc (j := 4) h hl1 (by omega) hL rfl rfl (by decide) d_L_law_278 d_L_law_279 d_L_law_281 d_L_law_282 d_L_law_283 ?_
  refine z_mod h hM (DW_len hD') hR (zf_M_root (by decide)) wm_L_83 wi_M_root ws_M_root d_L_law_284 hk hn rfl (Nat.zero_le _) rfl (fun wM' hR' => ?_)
  refine z_istore h.b d_L_law_287 (by decide) ?_
  refine z_lv (lv' := lv7 i (nI k9) a) h.b rfl ?_
  exact z_tail h (DW_len hD') hR' hk9 (fun q => by rw [hf', ho q]) hk hn d_L_law_289 d_L_law_290 d_L_law_293 d_L_law_295 d_L_law_300 d_L_law_302 d_L_law_305 d_L_law_306 d_L_law_307 d_L_law_308 d_L_law_310 d_L_law_311 d_L_law_312 d_L_law_317 (by decide) (fun wM'' hR'' => kk _ _ _ _ _ _ _ _ hD' hR'')
set_option maxRecDepth 100000 in
theorem cs_over (h : Cl Z L xs) {i : Nat} (hi : i + 7 ≤ L) (hL : L < 2 ^ 31) (hD : DW qM cM v b v2 b2 wD) (hR : RS v b v2 b2 t wM) (hk : k + 1 ≤ 601024) (hn : n + 6 ≤ 7293034) (kk : KK Z k n i) : Z k n (LW wD wM f) (lv5 i) 320 [] := by
  have hl0 : (LW wD wM f).length ≤ pS := by rw [LW_len (DW_len hD) (RS_len hR)]; decide
  refine z_aload_n h.b d_L_law_320 rfl ?_
  refine z_sl (j := 1) h hl0 (by omega) hL rfl rfl (by decide) (by decide) d_L_law_321 d_L_law_322 d_L_law_324 d_L_law_325 d_L_law_326 d_L_law_327 d_L_law_328 d_L_law_330 d_L_law_331 d_L_law_332 d_L_law_334 d_L_law_335 d_L_law_336 d_L_law_337 d_L_law_338 d_L_law_341 d_L_law_342 ?_
  refine z_sl (j := 3) h hl0 (by omega) hL rfl rfl (by decide) (by decide) d_L_law_343 d_L_law_344 d_L_law_346 d_L_law_347 d_L_law_348 d_L_law_349 d_L_law_350 d_L_law_352 d_L_law_353 d_L_law_354 d_L_law_356 d_L_law_357 d_L_law_358 d_L_law_359 d_L_law_360 d_L_law_363 d_L_law_364 ?_
  refine z_sc (j := 5) h hl0 (by omega) hL rfl rfl (by decide) d_L_law_365 d_L_law_366 d_L_law_368 d_L_law_369 d_L_law_370 ?_
  refine z_sc6 h hl0 (by omega) hL rfl rfl d_L_law_371 d_L_law_372 d_L_law_374 d_L_law_376 d_L_law_377 ?_
  refine z_aload_n h.b d_L_law_378 rfl ?_
  obtain ⟨k9, v', b', v2', b2', o', a, hk9, ho, hH, hM⟩ := p_over (lo2 (xs (i + 1)) (xs (i + 2))) (lo2 (xs (i + 3)) (xs (i + 4))) (xs (i + 5)) (xs (i + 6)) v b v2 b2 t (f 0) (wD ++ [al 1 f]) wM ⟨wD, f, rfl, hD, rfl⟩ hR
  refine z_help h hH hD (RS_len hR) wcw_L_over rfl (by show _ = some 6; decide +kernel) (by decide) wm_L_84 wt_L_over d_L_law_379 hk hn rfl (fun wD' f' hD' hf' => ?_)
  have hl1 : (LW wD' wM f').length ≤ pS := by rw [LW_len (DW_len hD') (RS_len hR)]; decide
  refine z_istore h.b d_L_law_382 (by decide) ?_
  refine z_lv (lv' := lv6 i (nI k9)) h.b rfl ?_
  refine z_aload_n h.b d_L_law_384 rfl ?_
  refine z_sl (j := 1) h hl1 (by omega) hL rfl rfl (by decide) (by decide) d_L_law_385 d_L_law_386 d_L_law_388 d_L_law_389 d_L_law_390 d_L_law_391 d_L_law_392 d_L_law_394 d_L_law_395 d_L_law_396 d_L_law_398 d_L_law_399 d_L_law_400 d_L_law_401 d_L_law_402 d_L_law_405 d_L_law_406 ?_
  refine z_sl (j := 3) h hl1 (by omega) hL rfl rfl (by decide) (by decide) d_L_law_407 d_L_law_408 d_L_law_410 d_L_law_411 d_L_law_412 d_L_law_413 d_L_law_414 d_L_law_416 d_L_law_417 d_L_law_418 d_L_law_420 d_L_law_421 d_L_law_422 d_L_law_423 d_L_law_424 d_L_law_427 d_L_law_428 ?_
  refine z_sc (j := 5) h hl1 (by omega) hL rfl rfl (by decide) d_L_law_429 d_L_law_430 d_L_law_432 d_L_law_433 d_L_law_434 ?_
  refine z_sc6 h hl1 (by omega) hL rfl rfl d_L_law_435 d_L_law_436 d_L_law_438 d_L_law_440 d_L_law_441 ?_
  refine z_mod h hM (DW_len hD') hR (zf_M_over (by decide)) wm_L_87 wi_M_over ws_M_over d_L_law_442 hk hn rfl (Nat.zero_le _) rfl (fun wM' hR' => ?_)
  refine z_istore h.b d_L_law_445 (by decide) ?_
  refine z_lv (lv' := lv7 i (nI k9) a) h.b rfl ?_
  exact z_tail h (DW_len hD') hR' hk9 (fun q => by rw [hf', ho q]) hk hn d_L_law_447 d_L_law_448 d_L_law_451 d_L_law_453 d_L_law_458 d_L_law_460 d_L_law_463 d_L_law_464 d_L_law_465 d_L_law_466 d_L_law_468 d_L_law_469 d_L_law_470 d_L_law_475 (by decide) (fun wM'' hR'' => kk _ _ _ _ _ _ _ _ hD' hR'')
set_option maxRecDepth 100000 in
theorem cs_number (h : Cl Z L xs) {i : Nat} (hi : i + 7 ≤ L) (hL : L < 2 ^ 31) (hD : DW qM cM v b v2 b2 wD) (hR : RS v b v2 b2 t wM) (hk : k + 1 ≤ 601024) (hn : n + 6 ≤ 7293034) (kk : KK Z k n i) : Z k n (LW wD wM f) (lv5 i) 478 [] := by
  have hl0 : (LW wD wM f).length ≤ pS := by rw [LW_len (DW_len hD) (RS_len hR)]; decide
  refine z_aload_n h.b d_L_law_478 rfl ?_
  refine z_sl (j := 1) h hl0 (by omega) hL rfl rfl (by decide) (by decide) d_L_law_479 d_L_law_480 d_L_law_482 d_L_law_483 d_L_law_484 d_L_law_485 d_L_law_486 d_L_law_488 d_L_law_489 d_L_law_490 d_L_law_492 d_L_law_493 d_L_law_494 d_L_law_495 d_L_law_496 d_L_law_499 d_L_law_500 ?_
  refine z_sc (j := 3) h hl0 (by omega) hL rfl rfl (by decide) d_L_law_501 d_L_law_502 d_L_law_504 d_L_law_505 d_L_law_506 ?_
  refine z_aload_n h.b d_L_law_507 rfl ?_
  obtain ⟨k9, v', b', v2', b2', o', a, hk9, ho, hH, hM⟩ := p_number (lo2 (xs (i + 1)) (xs (i + 2))) (xs (i + 3)) v b v2 b2 t (f 0) (wD ++ [al 1 f]) wM ⟨wD, f, rfl, hD, rfl⟩ hR
  refine z_help h hH hD (RS_len hR) wcw_L_number rfl (by show _ = some 4; decide +kernel) (by decide) wm_L_88 wt_L_number d_L_law_508 hk hn rfl (fun wD' f' hD' hf' => ?_)
  have hl1 : (LW wD' wM f').length ≤ pS := by rw [LW_len (DW_len hD') (RS_len hR)]; decide
  refine z_istore h.b d_L_law_511 (by decide) ?_
  refine z_lv (lv' := lv6 i (nI k9)) h.b rfl ?_
  refine z_aload_n h.b d_L_law_513 rfl ?_
  refine z_sl (j := 1) h hl1 (by omega) hL rfl rfl (by decide) (by decide) d_L_law_514 d_L_law_515 d_L_law_517 d_L_law_518 d_L_law_519 d_L_law_520 d_L_law_521 d_L_law_523 d_L_law_524 d_L_law_525 d_L_law_527 d_L_law_528 d_L_law_529 d_L_law_530 d_L_law_531 d_L_law_534 d_L_law_535 ?_
  refine z_sc (j := 3) h hl1 (by omega) hL rfl rfl (by decide) d_L_law_536 d_L_law_537 d_L_law_539 d_L_law_540 d_L_law_541 ?_
  refine z_mod h hM (DW_len hD') hR (zf_M_number (by decide)) wm_L_91 wi_M_number ws_M_number d_L_law_542 hk hn rfl (Nat.zero_le _) rfl (fun wM' hR' => ?_)
  refine z_istore h.b d_L_law_545 (by decide) ?_
  refine z_lv (lv' := lv7 i (nI k9) a) h.b rfl ?_
  exact z_tail h (DW_len hD') hR' hk9 (fun q => by rw [hf', ho q]) hk hn d_L_law_547 d_L_law_548 d_L_law_551 d_L_law_553 d_L_law_558 d_L_law_560 d_L_law_563 d_L_law_564 d_L_law_565 d_L_law_566 d_L_law_568 d_L_law_569 d_L_law_570 d_L_law_575 (by decide) (fun wM'' hR'' => kk _ _ _ _ _ _ _ _ hD' hR'')
set_option maxRecDepth 100000 in
theorem cs_push (h : Cl Z L xs) {i : Nat} (hi : i + 7 ≤ L) (hL : L < 2 ^ 31) (hD : DW qM cM v b v2 b2 wD) (hR : RS v b v2 b2 t wM) (hk : k + 1 ≤ 601024) (hn : n + 6 ≤ 7293034) (kk : KK Z k n i) : Z k n (LW wD wM f) (lv5 i) 578 [] := by
  have hl0 : (LW wD wM f).length ≤ pS := by rw [LW_len (DW_len hD) (RS_len hR)]; decide
  refine z_aload_n h.b d_L_law_578 rfl ?_
  refine z_sc (j := 1) h hl0 (by omega) hL rfl rfl (by decide) d_L_law_579 d_L_law_580 d_L_law_582 d_L_law_583 d_L_law_584 ?_
  refine z_aload_n h.b d_L_law_585 rfl ?_
  obtain ⟨k9, v', b', v2', b2', o', a, hk9, ho, hH, hM⟩ := p_push (xs (i + 1)) v b v2 b2 t (f 0) (wD ++ [al 1 f]) wM ⟨wD, f, rfl, hD, rfl⟩ hR
  refine z_help h hH hD (RS_len hR) wcw_L_push rfl (by show _ = some 3; decide +kernel) (by decide) wm_L_92 wt_L_push d_L_law_586 hk hn rfl (fun wD' f' hD' hf' => ?_)
  have hl1 : (LW wD' wM f').length ≤ pS := by rw [LW_len (DW_len hD') (RS_len hR)]; decide
  refine z_istore h.b d_L_law_589 (by decide) ?_
  refine z_lv (lv' := lv6 i (nI k9)) h.b rfl ?_
  refine z_aload_n h.b d_L_law_591 rfl ?_
  refine z_sc (j := 1) h hl1 (by omega) hL rfl rfl (by decide) d_L_law_592 d_L_law_593 d_L_law_595 d_L_law_596 d_L_law_597 ?_
  refine z_mod h hM (DW_len hD') hR (zf_M_push (by decide)) wm_L_95 wi_M_push ws_M_push d_L_law_598 hk hn rfl (Nat.zero_le _) rfl (fun wM' hR' => ?_)
  refine z_istore h.b d_L_law_601 (by decide) ?_
  refine z_lv (lv' := lv7 i (nI k9) a) h.b rfl ?_
  exact z_tail h (DW_len hD') hR' hk9 (fun q => by rw [hf', ho q]) hk hn d_L_law_603 d_L_law_604 d_L_law_607 d_L_law_609 d_L_law_614 d_L_law_616 d_L_law_619 d_L_law_620 d_L_law_621 d_L_law_622 d_L_law_624 d_L_law_625 d_L_law_626 d_L_law_631 (by decide) (fun wM'' hR'' => kk _ _ _ _ _ _ _ _ hD' hR'')
set_option maxRecDepth 100000 in
theorem cs_add (h : Cl Z L xs) {i : Nat} (hi : i + 7 ≤ L) (hL : L < 2 ^ 31) (hD : DW qM cM v b v2 b2 wD) (hR : RS v b v2 b2 t wM) (hk : k + 1 ≤ 601024) (hn : n + 6 ≤ 7293034) (kk : KK Z k n i) : Z k n (LW wD wM f) (lv5 i) 658 [] := by
  have hl0 : (LW wD wM f).length ≤ pS := by rw [LW_len (DW_len hD) (RS_len hR)]; decide
  refine z_aload_n h.b d_L_law_658 rfl ?_
  refine z_aload_n h.b d_L_law_659 rfl ?_
  obtain ⟨k9, v', b', v2', b2', o', a, hk9, ho, hH, hM⟩ := p_add  v b v2 b2 t (f 0) (wD ++ [al 1 f]) wM ⟨wD, f, rfl, hD, rfl⟩ hR
  refine z_help h hH hD (RS_len hR) wcw_L_add rfl (by show _ = some 2; decide +kernel) (by decide) wm_L_104 wt_L_add d_L_law_660 hk hn rfl (fun wD' f' hD' hf' => ?_)
  have hl1 : (LW wD' wM f').length ≤ pS := by rw [LW_len (DW_len hD') (RS_len hR)]; decide
  refine z_istore h.b d_L_law_663 (by decide) ?_
  refine z_lv (lv' := lv6 i (nI k9)) h.b rfl ?_
  refine z_aload_n h.b d_L_law_665 rfl ?_
  refine z_mod h hM (DW_len hD') hR (zf_M_add (by decide)) wm_L_107 wi_M_add ws_M_add d_L_law_666 hk hn rfl (Nat.zero_le _) rfl (fun wM' hR' => ?_)
  refine z_istore h.b d_L_law_669 (by decide) ?_
  refine z_lv (lv' := lv7 i (nI k9) a) h.b rfl ?_
  exact z_tail h (DW_len hD') hR' hk9 (fun q => by rw [hf', ho q]) hk hn d_L_law_671 d_L_law_672 d_L_law_675 d_L_law_677 d_L_law_682 d_L_law_684 d_L_law_687 d_L_law_688 d_L_law_689 d_L_law_690 d_L_law_692 d_L_law_693 d_L_law_694 d_L_law_699 (by decide) (fun wM'' hR'' => kk _ _ _ _ _ _ _ _ hD' hR'')
set_option maxRecDepth 100000 in
theorem cs_subtract (h : Cl Z L xs) {i : Nat} (hi : i + 7 ≤ L) (hL : L < 2 ^ 31) (hD : DW qM cM v b v2 b2 wD) (hR : RS v b v2 b2 t wM) (hk : k + 1 ≤ 601024) (hn : n + 6 ≤ 7293034) (kk : KK Z k n i) : Z k n (LW wD wM f) (lv5 i) 702 [] := by
  have hl0 : (LW wD wM f).length ≤ pS := by rw [LW_len (DW_len hD) (RS_len hR)]; decide
  refine z_aload_n h.b d_L_law_702 rfl ?_
  refine z_aload_n h.b d_L_law_703 rfl ?_
  obtain ⟨k9, v', b', v2', b2', o', a, hk9, ho, hH, hM⟩ := p_subtract  v b v2 b2 t (f 0) (wD ++ [al 1 f]) wM ⟨wD, f, rfl, hD, rfl⟩ hR
  refine z_help h hH hD (RS_len hR) wcw_L_subtract rfl (by show _ = some 2; decide +kernel) (by decide) wm_L_108 wt_L_subtract d_L_law_704 hk hn rfl (fun wD' f' hD' hf' => ?_)
  have hl1 : (LW wD' wM f').length ≤ pS := by rw [LW_len (DW_len hD') (RS_len hR)]; decide
  refine z_istore h.b d_L_law_707 (by decide) ?_
  refine z_lv (lv' := lv6 i (nI k9)) h.b rfl ?_
  refine z_aload_n h.b d_L_law_709 rfl ?_
  refine z_mod h hM (DW_len hD') hR (zf_M_subtract (by decide)) wm_L_110 wi_M_subtract ws_M_subtract d_L_law_710 hk hn rfl (Nat.zero_le _) rfl (fun wM' hR' => ?_)
  refine z_istore h.b d_L_law_713 (by decide) ?_
  refine z_lv (lv' := lv7 i (nI k9) a) h.b rfl ?_
  exact z_tail h (DW_len hD') hR' hk9 (fun q => by rw [hf', ho q]) hk hn d_L_law_715 d_L_law_716 d_L_law_719 d_L_law_721 d_L_law_726 d_L_law_728 d_L_law_731 d_L_law_732 d_L_law_733 d_L_law_734 d_L_law_736 d_L_law_737 d_L_law_738 d_L_law_743 (by decide) (fun wM'' hR'' => kk _ _ _ _ _ _ _ _ hD' hR'')
set_option maxRecDepth 100000 in
theorem cs_times (h : Cl Z L xs) {i : Nat} (hi : i + 7 ≤ L) (hL : L < 2 ^ 31) (hD : DW qM cM v b v2 b2 wD) (hR : RS v b v2 b2 t wM) (hk : k + 1 ≤ 601024) (hn : n + 6 ≤ 7293034) (kk : KK Z k n i) : Z k n (LW wD wM f) (lv5 i) 746 [] := by
  have hl0 : (LW wD wM f).length ≤ pS := by rw [LW_len (DW_len hD) (RS_len hR)]; decide
  refine z_aload_n h.b d_L_law_746 rfl ?_
  refine z_aload_n h.b d_L_law_747 rfl ?_
  obtain ⟨k9, v', b', v2', b2', o', a, hk9, ho, hH, hM⟩ := p_times  v b v2 b2 t (f 0) (wD ++ [al 1 f]) wM ⟨wD, f, rfl, hD, rfl⟩ hR
  refine z_help h hH hD (RS_len hR) wcw_L_times rfl (by show _ = some 2; decide +kernel) (by decide) wm_L_111 wt_L_times d_L_law_748 hk hn rfl (fun wD' f' hD' hf' => ?_)
  have hl1 : (LW wD' wM f').length ≤ pS := by rw [LW_len (DW_len hD') (RS_len hR)]; decide
  refine z_istore h.b d_L_law_751 (by decide) ?_
  refine z_lv (lv' := lv6 i (nI k9)) h.b rfl ?_
  refine z_aload_n h.b d_L_law_753 rfl ?_
  refine z_mod h hM (DW_len hD') hR (zf_M_times (by decide)) wm_L_113 wi_M_times ws_M_times d_L_law_754 hk hn rfl (Nat.zero_le _) rfl (fun wM' hR' => ?_)
  refine z_istore h.b d_L_law_757 (by decide) ?_
  refine z_lv (lv' := lv7 i (nI k9) a) h.b rfl ?_
  exact z_tail h (DW_len hD') hR' hk9 (fun q => by rw [hf', ho q]) hk hn d_L_law_759 d_L_law_760 d_L_law_763 d_L_law_765 d_L_law_770 d_L_law_772 d_L_law_775 d_L_law_776 d_L_law_777 d_L_law_778 d_L_law_780 d_L_law_781 d_L_law_782 d_L_law_787 (by decide) (fun wM'' hR'' => kk _ _ _ _ _ _ _ _ hD' hR'')
set_option maxRecDepth 100000 in
theorem cs_divide (h : Cl Z L xs) {i : Nat} (hi : i + 7 ≤ L) (hL : L < 2 ^ 31) (hD : DW qM cM v b v2 b2 wD) (hR : RS v b v2 b2 t wM) (hk : k + 1 ≤ 601024) (hn : n + 6 ≤ 7293034) (kk : KK Z k n i) : Z k n (LW wD wM f) (lv5 i) 790 [] := by
  have hl0 : (LW wD wM f).length ≤ pS := by rw [LW_len (DW_len hD) (RS_len hR)]; decide
  refine z_aload_n h.b d_L_law_790 rfl ?_
  refine z_aload_n h.b d_L_law_791 rfl ?_
  obtain ⟨k9, v', b', v2', b2', o', a, hk9, ho, hH, hM⟩ := p_divide  v b v2 b2 t (f 0) (wD ++ [al 1 f]) wM ⟨wD, f, rfl, hD, rfl⟩ hR
  refine z_help h hH hD (RS_len hR) wcw_L_divide rfl (by show _ = some 2; decide +kernel) (by decide) wm_L_114 wt_L_divide d_L_law_792 hk hn rfl (fun wD' f' hD' hf' => ?_)
  have hl1 : (LW wD' wM f').length ≤ pS := by rw [LW_len (DW_len hD') (RS_len hR)]; decide
  refine z_istore h.b d_L_law_795 (by decide) ?_
  refine z_lv (lv' := lv6 i (nI k9)) h.b rfl ?_
  refine z_aload_n h.b d_L_law_797 rfl ?_
  refine z_mod h hM (DW_len hD') hR (zf_M_divide (by decide)) wm_L_116 wi_M_divide ws_M_divide d_L_law_798 hk hn rfl (Nat.zero_le _) rfl (fun wM' hR' => ?_)
  refine z_istore h.b d_L_law_801 (by decide) ?_
  refine z_lv (lv' := lv7 i (nI k9) a) h.b rfl ?_
  exact z_tail h (DW_len hD') hR' hk9 (fun q => by rw [hf', ho q]) hk hn d_L_law_803 d_L_law_804 d_L_law_807 d_L_law_809 d_L_law_814 d_L_law_816 d_L_law_819 d_L_law_820 d_L_law_821 d_L_law_822 d_L_law_824 d_L_law_825 d_L_law_826 d_L_law_831 (by decide) (fun wM'' hR'' => kk _ _ _ _ _ _ _ _ hD' hR'')
set_option maxRecDepth 100000 in
theorem cs_convert (h : Cl Z L xs) {i : Nat} (hi : i + 7 ≤ L) (hL : L < 2 ^ 31) (hD : DW qM cM v b v2 b2 wD) (hR : RS v b v2 b2 t wM) (hk : k + 1 ≤ 601024) (hn : n + 6 ≤ 7293034) (kk : KK Z k n i) : Z k n (LW wD wM f) (lv5 i) 847 [] := by
  have hl0 : (LW wD wM f).length ≤ pS := by rw [LW_len (DW_len hD) (RS_len hR)]; decide
  refine z_aload_n h.b d_L_law_847 rfl ?_
  refine z_sc (j := 1) h hl0 (by omega) hL rfl rfl (by decide) d_L_law_848 d_L_law_849 d_L_law_851 d_L_law_852 d_L_law_853 ?_
  refine z_aload_n h.b d_L_law_854 rfl ?_
  obtain ⟨k9, v', b', v2', b2', o', a, hk9, ho, hH, hM⟩ := p_convert (xs (i + 1)) v b v2 b2 t (f 0) (wD ++ [al 1 f]) wM ⟨wD, f, rfl, hD, rfl⟩ hR
  refine z_help h hH hD (RS_len hR) wcw_L_convert rfl (by show _ = some 3; decide +kernel) (by decide) wm_L_121 wt_L_convert d_L_law_855 hk hn rfl (fun wD' f' hD' hf' => ?_)
  have hl1 : (LW wD' wM f').length ≤ pS := by rw [LW_len (DW_len hD') (RS_len hR)]; decide
  refine z_istore h.b d_L_law_858 (by decide) ?_
  refine z_lv (lv' := lv6 i (nI k9)) h.b rfl ?_
  refine z_aload_n h.b d_L_law_860 rfl ?_
  refine z_sc (j := 1) h hl1 (by omega) hL rfl rfl (by decide) d_L_law_861 d_L_law_862 d_L_law_864 d_L_law_865 d_L_law_866 ?_
  refine z_mod h hM (DW_len hD') hR (zf_M_convert (by decide)) wm_L_123 wi_M_convert ws_M_convert d_L_law_867 hk hn rfl (Nat.zero_le _) rfl (fun wM' hR' => ?_)
  refine z_istore h.b d_L_law_870 (by decide) ?_
  refine z_lv (lv' := lv7 i (nI k9) a) h.b rfl ?_
  exact z_tail h (DW_len hD') hR' hk9 (fun q => by rw [hf', ho q]) hk hn d_L_law_872 d_L_law_873 d_L_law_876 d_L_law_878 d_L_law_883 d_L_law_885 d_L_law_888 d_L_law_889 d_L_law_890 d_L_law_891 d_L_law_893 d_L_law_894 d_L_law_895 d_L_law_900 (by decide) (fun wM'' hR'' => kk _ _ _ _ _ _ _ _ hD' hR'')
set_option maxRecDepth 100000 in
theorem cs_digit (h : Cl Z L xs) {i : Nat} (hi : i + 7 ≤ L) (hL : L < 2 ^ 31) (hD : DW qM cM v b v2 b2 wD) (hR : RS v b v2 b2 t wM) (hk : k + 1 ≤ 601024) (hn : n + 6 ≤ 7293034) (kk : KK Z k n i) : Z k n (LW wD wM f) (lv5 i) 903 [] := by
  have hl0 : (LW wD wM f).length ≤ pS := by rw [LW_len (DW_len hD) (RS_len hR)]; decide
  refine z_aload_n h.b d_L_law_903 rfl ?_
  refine z_sc (j := 1) h hl0 (by omega) hL rfl rfl (by decide) d_L_law_904 d_L_law_905 d_L_law_907 d_L_law_908 d_L_law_909 ?_
  refine z_aload_n h.b d_L_law_910 rfl ?_
  obtain ⟨k9, v', b', v2', b2', o', a, hk9, ho, hH, hM⟩ := p_digit (xs (i + 1)) v b v2 b2 t (f 0) (wD ++ [al 1 f]) wM ⟨wD, f, rfl, hD, rfl⟩ hR
  refine z_help h hH hD (RS_len hR) wcw_L_digit rfl (by show _ = some 3; decide +kernel) (by decide) wm_L_124 wt_L_digit d_L_law_911 hk hn rfl (fun wD' f' hD' hf' => ?_)
  have hl1 : (LW wD' wM f').length ≤ pS := by rw [LW_len (DW_len hD') (RS_len hR)]; decide
  refine z_istore h.b d_L_law_914 (by decide) ?_
  refine z_lv (lv' := lv6 i (nI k9)) h.b rfl ?_
  refine z_aload_n h.b d_L_law_916 rfl ?_
  refine z_sc (j := 1) h hl1 (by omega) hL rfl rfl (by decide) d_L_law_917 d_L_law_918 d_L_law_920 d_L_law_921 d_L_law_922 ?_
  refine z_mod h hM (DW_len hD') hR (zf_M_digit (by decide)) wm_L_126 wi_M_digit ws_M_digit d_L_law_923 hk hn rfl (Nat.zero_le _) rfl (fun wM' hR' => ?_)
  refine z_istore h.b d_L_law_926 (by decide) ?_
  refine z_lv (lv' := lv7 i (nI k9) a) h.b rfl ?_
  exact z_tail h (DW_len hD') hR' hk9 (fun q => by rw [hf', ho q]) hk hn d_L_law_928 d_L_law_929 d_L_law_932 d_L_law_934 d_L_law_939 d_L_law_941 d_L_law_944 d_L_law_945 d_L_law_946 d_L_law_947 d_L_law_949 d_L_law_950 d_L_law_951 d_L_law_956 (by decide) (fun wM'' hR'' => kk _ _ _ _ _ _ _ _ hD' hR'')
set_option maxRecDepth 100000 in
theorem cs_about (h : Cl Z L xs) {i : Nat} (hi : i + 7 ≤ L) (hL : L < 2 ^ 31) (hD : DW qM cM v b v2 b2 wD) (hR : RS v b v2 b2 t wM) (hk : k + 1 ≤ 601024) (hn : n + 6 ≤ 7293034) (kk : KK Z k n i) : Z k n (LW wD wM f) (lv5 i) 959 [] := by
  have hl0 : (LW wD wM f).length ≤ pS := by rw [LW_len (DW_len hD) (RS_len hR)]; decide
  refine z_aload_n h.b d_L_law_959 rfl ?_
  refine z_sc (j := 1) h hl0 (by omega) hL rfl rfl (by decide) d_L_law_960 d_L_law_961 d_L_law_963 d_L_law_964 d_L_law_965 ?_
  refine z_aload_n h.b d_L_law_966 rfl ?_
  obtain ⟨k9, v', b', v2', b2', o', a, hk9, ho, hH, hM⟩ := p_about (xs (i + 1)) v b v2 b2 t (f 0) (wD ++ [al 1 f]) wM ⟨wD, f, rfl, hD, rfl⟩ hR
  refine z_help h hH hD (RS_len hR) wcw_L_about rfl (by show _ = some 3; decide +kernel) (by decide) wm_L_127 wt_L_about d_L_law_967 hk hn rfl (fun wD' f' hD' hf' => ?_)
  have hl1 : (LW wD' wM f').length ≤ pS := by rw [LW_len (DW_len hD') (RS_len hR)]; decide
  refine z_istore h.b d_L_law_970 (by decide) ?_
  refine z_lv (lv' := lv6 i (nI k9)) h.b rfl ?_
  refine z_aload_n h.b d_L_law_972 rfl ?_
  refine z_sc (j := 1) h hl1 (by omega) hL rfl rfl (by decide) d_L_law_973 d_L_law_974 d_L_law_976 d_L_law_977 d_L_law_978 ?_
  refine z_mod h hM (DW_len hD') hR (zf_M_about (by decide)) wm_L_129 wi_M_about ws_M_about d_L_law_979 hk hn rfl (Nat.zero_le _) rfl (fun wM' hR' => ?_)
  refine z_istore h.b d_L_law_982 (by decide) ?_
  refine z_lv (lv' := lv7 i (nI k9) a) h.b rfl ?_
  exact z_tail h (DW_len hD') hR' hk9 (fun q => by rw [hf', ho q]) hk hn d_L_law_984 d_L_law_985 d_L_law_988 d_L_law_990 d_L_law_995 d_L_law_997 d_L_law_1000 d_L_law_1001 d_L_law_1002 d_L_law_1003 d_L_law_1005 d_L_law_1006 d_L_law_1007 d_L_law_1012 (by decide) (fun wM'' hR'' => kk _ _ _ _ _ _ _ _ hD' hR'')
set_option maxRecDepth 100000 in
theorem cs_count (h : Cl Z L xs) {i : Nat} (hi : i + 7 ≤ L) (hL : L < 2 ^ 31) (hD : DW qM cM v b v2 b2 wD) (hR : RS v b v2 b2 t wM) (hk : k + 1 ≤ 601024) (hn : n + 6 ≤ 7293034) (kk : KK Z k n i) : Z k n (LW wD wM f) (lv5 i) 1015 [] := by
  have hl0 : (LW wD wM f).length ≤ pS := by rw [LW_len (DW_len hD) (RS_len hR)]; decide
  refine z_aload_n h.b d_L_law_1015 rfl ?_
  refine z_sc (j := 1) h hl0 (by omega) hL rfl rfl (by decide) d_L_law_1016 d_L_law_1017 d_L_law_1019 d_L_law_1020 d_L_law_1021 ?_
  refine z_sc (j := 2) h hl0 (by omega) hL rfl rfl (by decide) d_L_law_1022 d_L_law_1023 d_L_law_1025 d_L_law_1026 d_L_law_1027 ?_
  refine z_sc (j := 3) h hl0 (by omega) hL rfl rfl (by decide) d_L_law_1028 d_L_law_1029 d_L_law_1031 d_L_law_1032 d_L_law_1033 ?_
  refine z_aload_n h.b d_L_law_1034 rfl ?_
  obtain ⟨k9, v', b', v2', b2', o', a, hk9, ho, hH, hM⟩ := p_count (xs (i + 1)) (xs (i + 2)) (xs (i + 3)) v b v2 b2 t (f 0) (wD ++ [al 1 f]) wM ⟨wD, f, rfl, hD, rfl⟩ hR
  refine z_help h hH hD (RS_len hR) wcw_L_count rfl (by show _ = some 5; decide +kernel) (by decide) wm_L_130 wt_L_count d_L_law_1035 hk hn rfl (fun wD' f' hD' hf' => ?_)
  have hl1 : (LW wD' wM f').length ≤ pS := by rw [LW_len (DW_len hD') (RS_len hR)]; decide
  refine z_istore h.b d_L_law_1038 (by decide) ?_
  refine z_lv (lv' := lv6 i (nI k9)) h.b rfl ?_
  refine z_aload_n h.b d_L_law_1040 rfl ?_
  refine z_sc (j := 1) h hl1 (by omega) hL rfl rfl (by decide) d_L_law_1041 d_L_law_1042 d_L_law_1044 d_L_law_1045 d_L_law_1046 ?_
  refine z_sc (j := 2) h hl1 (by omega) hL rfl rfl (by decide) d_L_law_1047 d_L_law_1048 d_L_law_1050 d_L_law_1051 d_L_law_1052 ?_
  refine z_sc (j := 3) h hl1 (by omega) hL rfl rfl (by decide) d_L_law_1053 d_L_law_1054 d_L_law_1056 d_L_law_1057 d_L_law_1058 ?_
  refine z_mod h hM (DW_len hD') hR (zf_M_count (by decide)) wm_L_132 wi_M_count ws_M_count d_L_law_1059 hk hn rfl (Nat.zero_le _) rfl (fun wM' hR' => ?_)
  refine z_istore h.b d_L_law_1062 (by decide) ?_
  refine z_lv (lv' := lv7 i (nI k9) a) h.b rfl ?_
  exact z_tail h (DW_len hD') hR' hk9 (fun q => by rw [hf', ho q]) hk hn d_L_law_1064 d_L_law_1065 d_L_law_1068 d_L_law_1070 d_L_law_1075 d_L_law_1077 d_L_law_1080 d_L_law_1081 d_L_law_1082 d_L_law_1083 d_L_law_1085 d_L_law_1086 d_L_law_1087 d_L_law_1092 (by decide) (fun wM'' hR'' => kk _ _ _ _ _ _ _ _ hD' hR'')
set_option maxRecDepth 100000 in
theorem cs_find (h : Cl Z L xs) {i : Nat} (hi : i + 7 ≤ L) (hL : L < 2 ^ 31) (hD : DW qM cM v b v2 b2 wD) (hR : RS v b v2 b2 t wM) (hk : k + 1 ≤ 601024) (hn : n + 6 ≤ 7293034) (kk : KK Z k n i) : Z k n (LW wD wM f) (lv5 i) 1095 [] := by
  have hl0 : (LW wD wM f).length ≤ pS := by rw [LW_len (DW_len hD) (RS_len hR)]; decide
  refine z_aload_n h.b d_L_law_1095 rfl ?_
  refine z_sl (j := 1) h hl0 (by omega) hL rfl rfl (by decide) (by decide) d_L_law_1096 d_L_law_1097 d_L_law_1099 d_L_law_1100 d_L_law_1101 d_L_law_1102 d_L_law_1103 d_L_law_1105 d_L_law_1106 d_L_law_1107 d_L_law_1109 d_L_law_1110 d_L_law_1111 d_L_law_1112 d_L_law_1113 d_L_law_1116 d_L_law_1117 ?_
  refine z_sc (j := 3) h hl0 (by omega) hL rfl rfl (by decide) d_L_law_1118 d_L_law_1119 d_L_law_1121 d_L_law_1122 d_L_law_1123 ?_
  refine z_sc (j := 4) h hl0 (by omega) hL rfl rfl (by decide) d_L_law_1124 d_L_law_1125 d_L_law_1127 d_L_law_1128 d_L_law_1129 ?_
  refine z_aload_n h.b d_L_law_1130 rfl ?_
  obtain ⟨k9, v', b', v2', b2', o', a, hk9, ho, hH, hM⟩ := p_find (lo2 (xs (i + 1)) (xs (i + 2))) (xs (i + 3)) (xs (i + 4)) v b v2 b2 t (f 0) (wD ++ [al 1 f]) wM ⟨wD, f, rfl, hD, rfl⟩ hR
  refine z_help h hH hD (RS_len hR) wcw_L_find rfl (by show _ = some 5; decide +kernel) (by decide) wm_L_133 wt_L_find d_L_law_1131 hk hn rfl (fun wD' f' hD' hf' => ?_)
  have hl1 : (LW wD' wM f').length ≤ pS := by rw [LW_len (DW_len hD') (RS_len hR)]; decide
  refine z_istore h.b d_L_law_1134 (by decide) ?_
  refine z_lv (lv' := lv6 i (nI k9)) h.b rfl ?_
  refine z_aload_n h.b d_L_law_1136 rfl ?_
  refine z_sl (j := 1) h hl1 (by omega) hL rfl rfl (by decide) (by decide) d_L_law_1137 d_L_law_1138 d_L_law_1140 d_L_law_1141 d_L_law_1142 d_L_law_1143 d_L_law_1144 d_L_law_1146 d_L_law_1147 d_L_law_1148 d_L_law_1150 d_L_law_1151 d_L_law_1152 d_L_law_1153 d_L_law_1154 d_L_law_1157 d_L_law_1158 ?_
  refine z_sc (j := 3) h hl1 (by omega) hL rfl rfl (by decide) d_L_law_1159 d_L_law_1160 d_L_law_1162 d_L_law_1163 d_L_law_1164 ?_
  refine z_sc (j := 4) h hl1 (by omega) hL rfl rfl (by decide) d_L_law_1165 d_L_law_1166 d_L_law_1168 d_L_law_1169 d_L_law_1170 ?_
  refine z_mod h hM (DW_len hD') hR (zf_M_find (by decide)) wm_L_135 wi_M_find ws_M_find d_L_law_1171 hk hn rfl (Nat.zero_le _) rfl (fun wM' hR' => ?_)
  refine z_istore h.b d_L_law_1174 (by decide) ?_
  refine z_lv (lv' := lv7 i (nI k9) a) h.b rfl ?_
  exact z_tail h (DW_len hD') hR' hk9 (fun q => by rw [hf', ho q]) hk hn d_L_law_1176 d_L_law_1177 d_L_law_1180 d_L_law_1182 d_L_law_1187 d_L_law_1189 d_L_law_1192 d_L_law_1193 d_L_law_1194 d_L_law_1195 d_L_law_1197 d_L_law_1198 d_L_law_1199 d_L_law_1204 (by decide) (fun wM'' hR'' => kk _ _ _ _ _ _ _ _ hD' hR'')
end ZLs
