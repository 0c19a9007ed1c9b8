/-! THE LAW: its cases, one by one -/
section LAWC
variable {l : Launch} {E : xE} {Y : xY} {A : Nat → Prop} {b L : Nat} {xs : Nat → Int32} {i : Int} {k n : Nat} {M : xM} {u5 u6 u7 u8 : xV}
abbrev lwNx (l : Launch) (E : xE) (Y : xY) (A : Nat → Prop) (b : Nat) (i : Int) (k n : Nat) : Prop := ∀ (u5 u6 u7 u8 : xV) (M : xM), Rl M M → okT M → WP l E room_1 A Y (k + 6) (n + 36) 1618 [vQ b, vA 0, vA 68, vA 79, vI (jI i), u5, u6, u7, u8] [] M
set_option maxRecDepth 20000 in
theorem law_join (C : lwC l E Y A b L xs i k n) (H : Rl M M) (hT : okT M) (nx : lwNx l E Y A b i k n) : WP l E room_1 A Y k n 156 [vQ b, vA 0, vA 68, vA 79, vI (jI i), u5, u6, u7, u8] [] M := by
  obtain ⟨hl, F, hN, -, -, -, -, hcs⟩ := id C
  refine x_aload_n F dL_law_156 rfl ?_
  refine x_arg (j := 1) C (by decide) dL_law_157 dL_law_158 dL_law_160 dL_law_161 dL_law_162 rfl rfl ?_
  refine x_arg (j := 2) C (by decide) dL_law_163 dL_law_164 dL_law_166 dL_law_167 dL_law_168 rfl rfl ?_
  refine x_arg (j := 3) C (by decide) dL_law_169 dL_law_170 dL_law_172 dL_law_173 dL_law_174 rfl rfl ?_
  refine x_aload_n F dL_law_175 rfl ?_
  refine x_callH (As := [vA 0, vI (jI (sa xs (i + 1))), vI (jI (sa xs (i + 2))), vI (jI (sa xs (i + 3))), vA 79]) (st := []) F hN (h_L_join hl H.1.1 H.2.1.1 (rg_sa _ _) (rg_sa _ _) (rg_sa _ _)) mlL_87 mhL_join ⟨Nat.le_of_ble_eq_true rfl, Nat.le_of_ble_eq_true rfl⟩ hcs (Nat.le_of_ble_eq_true rfl) rfl dL_law_176 (fun r1 M1 W => ?_)
  obtain ⟨x5, rfl⟩ := W_vI W
  obtain ⟨hm, tie⟩ := tie_join H W
  have hT1 : okT M1 := okT_W W (fun Mc e h => okT_e (by rw [e, arM_2, svM_22]) h) hT
  refine x_istore F dL_law_179 (by decide) ?_
  show WP l E room_1 A Y (k + 6) (n + 36) 181 [vQ b, vA 0, vA 68, vA 79, vI (jI i), vI x5, u6, u7, u8] [] M1
  refine x_aload_n F dL_law_181 rfl ?_
  refine x_arg (j := 1) C (by decide) dL_law_182 dL_law_183 dL_law_185 dL_law_186 dL_law_187 rfl rfl ?_
  refine x_arg (j := 2) C (by decide) dL_law_188 dL_law_189 dL_law_191 dL_law_192 dL_law_193 rfl rfl ?_
  refine x_arg (j := 3) C (by decide) dL_law_194 dL_law_195 dL_law_197 dL_law_198 dL_law_199 rfl rfl ?_
  refine x_V3P F (m_X7_join (l := l) (Rl_Z hm) (Rl_s hm) (rg_sa _ _) (rg_sa _ _) (rg_sa _ _)) mlL_92 mvX7_join rfl dL_law_200 (by decide) rfl ⟨Nat.le_of_ble_eq_true rfl, Nat.le_of_ble_eq_true rfl⟩ hcs (Nat.le_of_ble_eq_true rfl) (fun r9 M2 P => ?_)
  obtain ⟨hO, h2⟩ := tie r9 M2 P
  have hT2 : okT M2 := okT_P P (fun e => by rw [e, jnZ_2, svt_2]) hT1
  obtain ⟨y, hy, e5, e68, a, rfl, eL⟩ := hO
  exact law_tail C dL_law_203 dL_law_205 dL_law_206 dL_law_209 dL_law_211 dL_law_216 dL_law_218 dL_law_221 dL_law_222 dL_law_223 dL_law_224 dL_law_226 dL_law_227 dL_law_228 dL_law_233 (by decide) ⟨y, hy, e5, e68, a, rfl, eL⟩ (nx _ _ _ _ _ h2 hT2)
set_option maxRecDepth 20000 in
theorem law_leave (C : lwC l E Y A b L xs i k n) (H : Rl M M) (hT : okT M) (nx : lwNx l E Y A b i k n) : WP l E room_1 A Y k n 236 [vQ b, vA 0, vA 68, vA 79, vI (jI i), u5, u6, u7, u8] [] M := by
  obtain ⟨hl, F, hN, -, -, -, -, hcs⟩ := id C
  refine x_aload_n F dL_law_236 rfl ?_
  refine x_arg (j := 1) C (by decide) dL_law_237 dL_law_238 dL_law_240 dL_law_241 dL_law_242 rfl rfl ?_
  refine x_arg (j := 2) C (by decide) dL_law_243 dL_law_244 dL_law_246 dL_law_247 dL_law_248 rfl rfl ?_
  refine x_aload_n F dL_law_249 rfl ?_
  refine x_callH (As := [vA 0, vI (jI (sa xs (i + 1))), vI (jI (sa xs (i + 2))), vA 79]) (st := []) F hN (h_L_leave hl H.1.1 H.2.1.1 (rg_sa _ _) (rg_sa _ _)) mlL_96 mhL_leave ⟨Nat.le_of_ble_eq_true rfl, Nat.le_of_ble_eq_true rfl⟩ hcs (Nat.le_of_ble_eq_true rfl) rfl dL_law_250 (fun r1 M1 W => ?_)
  obtain ⟨x5, rfl⟩ := W_vI W
  obtain ⟨hm, tie⟩ := tie_leave H W
  have hT1 : okT M1 := okT_W W (fun Mc e h => okT_e (by rw [e, leM_2, svM_22]) h) hT
  refine x_istore F dL_law_253 (by decide) ?_
  show WP l E room_1 A Y (k + 6) (n + 36) 255 [vQ b, vA 0, vA 68, vA 79, vI (jI i), vI x5, u6, u7, u8] [] M1
  refine x_aload_n F dL_law_255 rfl ?_
  refine x_arg (j := 1) C (by decide) dL_law_256 dL_law_257 dL_law_259 dL_law_260 dL_law_261 rfl rfl ?_
  refine x_arg (j := 2) C (by decide) dL_law_262 dL_law_263 dL_law_265 dL_law_266 dL_law_267 rfl rfl ?_
  refine x_V2P F (m_X7_leave (l := l) (Rl_Z hm) (Rl_s hm) (rg_sa _ _) (rg_sa _ _)) mlL_99 mvX7_leave rfl dL_law_268 (by decide) rfl ⟨Nat.le_of_ble_eq_true rfl, Nat.le_of_ble_eq_true rfl⟩ hcs (Nat.le_of_ble_eq_true rfl) (fun r9 M2 P => ?_)
  obtain ⟨hO, h2⟩ := tie r9 M2 P
  have hT2 : okT M2 := okT_P P (fun e => by rw [e, leZ_2, svt_2]) hT1
  obtain ⟨y, hy, e5, e68, a, rfl, eL⟩ := hO
  exact law_tail C dL_law_271 dL_law_273 dL_law_274 dL_law_277 dL_law_279 dL_law_284 dL_law_286 dL_law_289 dL_law_290 dL_law_291 dL_law_292 dL_law_294 dL_law_295 dL_law_296 dL_law_301 (by decide) ⟨y, hy, e5, e68, a, rfl, eL⟩ (nx _ _ _ _ _ h2 hT2)
set_option maxRecDepth 20000 in
theorem law_grow (C : lwC l E Y A b L xs i k n) (H : Rl M M) (hT : okT M) (nx : lwNx l E Y A b i k n) : WP l E room_1 A Y k n 304 [vQ b, vA 0, vA 68, vA 79, vI (jI i), u5, u6, u7, u8] [] M := by
  obtain ⟨hl, F, hN, -, -, -, -, hcs⟩ := id C
  refine x_aload_n F dL_law_304 rfl ?_
  refine x_arg (j := 1) C (by decide) dL_law_305 dL_law_306 dL_law_308 dL_law_309 dL_law_310 rfl rfl ?_
  refine x_arg (j := 2) C (by decide) dL_law_311 dL_law_312 dL_law_314 dL_law_315 dL_law_316 rfl rfl ?_
  refine x_arg (j := 3) C (by decide) dL_law_317 dL_law_318 dL_law_320 dL_law_321 dL_law_322 rfl rfl ?_
  refine x_aload_n F dL_law_323 rfl ?_
  refine x_callH (As := [vA 0, vI (jI (sa xs (i + 1))), vI (jI (sa xs (i + 2))), vI (jI (sa xs (i + 3))), vA 79]) (st := []) F hN (h_L_grow hl H.1.1 H.2.1.1 (rg_sa _ _) (rg_sa _ _) (rg_sa _ _)) mlL_100 mhL_grow ⟨Nat.le_of_ble_eq_true rfl, Nat.le_of_ble_eq_true rfl⟩ hcs (Nat.le_of_ble_eq_true rfl) rfl dL_law_324 (fun r1 M1 W => ?_)
  obtain ⟨x5, rfl⟩ := W_vI W
  obtain ⟨hm, tie⟩ := tie_grow H W
  have hT1 : okT M1 := okT_W W (fun Mc e h => okT_e (by rw [e, wrI_2, svM_22]) h) hT
  refine x_istore F dL_law_327 (by decide) ?_
  show WP l E room_1 A Y (k + 6) (n + 36) 329 [vQ b, vA 0, vA 68, vA 79, vI (jI i), vI x5, u6, u7, u8] [] M1
  refine x_aload_n F dL_law_329 rfl ?_
  refine x_arg (j := 1) C (by decide) dL_law_330 dL_law_331 dL_law_333 dL_law_334 dL_law_335 rfl rfl ?_
  refine x_arg (j := 2) C (by decide) dL_law_336 dL_law_337 dL_law_339 dL_law_340 dL_law_341 rfl rfl ?_
  refine x_arg (j := 3) C (by decide) dL_law_342 dL_law_343 dL_law_345 dL_law_346 dL_law_347 rfl rfl ?_
  refine x_V3P F (m_X7_grow (l := l) (Rl_Z hm) (Rl_s hm) (rg_sa _ _) (rg_sa _ _) (rg_sa _ _)) mlL_102 mvX7_grow rfl dL_law_348 (by decide) rfl ⟨Nat.le_of_ble_eq_true rfl, Nat.le_of_ble_eq_true rfl⟩ hcs (Nat.le_of_ble_eq_true rfl) (fun r9 M2 P => ?_)
  obtain ⟨hO, h2⟩ := tie r9 M2 P
  have hT2 : okT M2 := okT_P P (fun e => by rw [e, upI_2, svt_2]) hT1
  obtain ⟨y, hy, e5, e68, a, rfl, eL⟩ := hO
  exact law_tail C dL_law_351 dL_law_353 dL_law_354 dL_law_357 dL_law_359 dL_law_364 dL_law_366 dL_law_369 dL_law_370 dL_law_371 dL_law_372 dL_law_374 dL_law_375 dL_law_376 dL_law_381 (by decide) ⟨y, hy, e5, e68, a, rfl, eL⟩ (nx _ _ _ _ _ h2 hT2)
set_option maxRecDepth 20000 in
theorem law_swap (C : lwC l E Y A b L xs i k n) (H : Rl M M) (hT : okT M) (nx : lwNx l E Y A b i k n) : WP l E room_1 A Y k n 384 [vQ b, vA 0, vA 68, vA 79, vI (jI i), u5, u6, u7, u8] [] M := by
  obtain ⟨hl, F, hN, -, -, -, -, hcs⟩ := id C
  refine x_aload_n F dL_law_384 rfl ?_
  refine x_arg (j := 1) C (by decide) dL_law_385 dL_law_386 dL_law_388 dL_law_389 dL_law_390 rfl rfl ?_
  refine x_arg (j := 2) C (by decide) dL_law_391 dL_law_392 dL_law_394 dL_law_395 dL_law_396 rfl rfl ?_
  refine x_arg (j := 3) C (by decide) dL_law_397 dL_law_398 dL_law_400 dL_law_401 dL_law_402 rfl rfl ?_
  refine x_arg (j := 4) C (by decide) dL_law_403 dL_law_404 dL_law_406 dL_law_407 dL_law_408 rfl rfl ?_
  refine x_aload_n F dL_law_409 rfl ?_
  refine x_callH (As := [vA 0, vI (jI (sa xs (i + 1))), vI (jI (sa xs (i + 2))), vI (jI (sa xs (i + 3))), vI (jI (sa xs (i + 4))), vA 79]) (st := []) F hN (h_L_swap hl H.1.1 H.2.1.1 (rg_sa _ _) (rg_sa _ _) (rg_sa _ _) (rg_sa _ _)) mlL_103 mhL_swap ⟨Nat.le_of_ble_eq_true rfl, Nat.le_of_ble_eq_true rfl⟩ hcs (Nat.le_of_ble_eq_true rfl) rfl dL_law_410 (fun r1 M1 W => ?_)
  obtain ⟨x5, rfl⟩ := W_vI W
  obtain ⟨hm, tie⟩ := tie_swap H W
  have hT1 : okT M1 := okT_W W (fun Mc e h => okT_e (by rw [e, swM_2, svM_22]) h) hT
  refine x_istore F dL_law_413 (by decide) ?_
  show WP l E room_1 A Y (k + 6) (n + 36) 415 [vQ b, vA 0, vA 68, vA 79, vI (jI i), vI x5, u6, u7, u8] [] M1
  refine x_aload_n F dL_law_415 rfl ?_
  refine x_arg (j := 1) C (by decide) dL_law_416 dL_law_417 dL_law_419 dL_law_420 dL_law_421 rfl rfl ?_
  refine x_arg (j := 2) C (by decide) dL_law_422 dL_law_423 dL_law_425 dL_law_426 dL_law_427 rfl rfl ?_
  refine x_arg (j := 3) C (by decide) dL_law_428 dL_law_429 dL_law_431 dL_law_432 dL_law_433 rfl rfl ?_
  refine x_arg (j := 4) C (by decide) dL_law_434 dL_law_435 dL_law_437 dL_law_438 dL_law_439 rfl rfl ?_
  refine x_V4P F (m_X7_swap (l := l) (Rl_Z hm) (Rl_s hm) (rg_sa _ _) (rg_sa _ _) (rg_sa _ _) (rg_sa _ _)) mlL_106 mvX7_swap rfl dL_law_440 (by decide) rfl ⟨Nat.le_of_ble_eq_true rfl, Nat.le_of_ble_eq_true rfl⟩ hcs (Nat.le_of_ble_eq_true rfl) (fun r9 M2 P => ?_)
  obtain ⟨hO, h2⟩ := tie r9 M2 P
  have hT2 : okT M2 := okT_P P (fun e => by rw [e, swZ_2, svt_2]) hT1
  obtain ⟨y, hy, e5, e68, a, rfl, eL⟩ := hO
  exact law_tail C dL_law_443 dL_law_445 dL_law_446 dL_law_449 dL_law_451 dL_law_456 dL_law_458 dL_law_461 dL_law_462 dL_law_463 dL_law_464 dL_law_466 dL_law_467 dL_law_468 dL_law_473 (by decide) ⟨y, hy, e5, e68, a, rfl, eL⟩ (nx _ _ _ _ _ h2 hT2)
set_option maxRecDepth 20000 in
theorem law_cross (C : lwC l E Y A b L xs i k n) (H : Rl M M) (hT : okT M) (nx : lwNx l E Y A b i k n) : WP l E room_1 A Y k n 476 [vQ b, vA 0, vA 68, vA 79, vI (jI i), u5, u6, u7, u8] [] M := by
  obtain ⟨hl, F, hN, -, -, -, -, hcs⟩ := id C
  refine x_aload_n F dL_law_476 rfl ?_
  refine x_arg (j := 1) C (by decide) dL_law_477 dL_law_478 dL_law_480 dL_law_481 dL_law_482 rfl rfl ?_
  refine x_arg (j := 2) C (by decide) dL_law_483 dL_law_484 dL_law_486 dL_law_487 dL_law_488 rfl rfl ?_
  refine x_arg (j := 3) C (by decide) dL_law_489 dL_law_490 dL_law_492 dL_law_493 dL_law_494 rfl rfl ?_
  refine x_aload_n F dL_law_495 rfl ?_
  refine x_callH (As := [vA 0, vI (jI (sa xs (i + 1))), vI (jI (sa xs (i + 2))), vI (jI (sa xs (i + 3))), vA 79]) (st := []) F hN (h_L_cross hl H.1.1 H.2.1.1 (rg_sa _ _) (rg_sa _ _) (rg_sa _ _)) mlL_107 mhL_cross ⟨Nat.le_of_ble_eq_true rfl, Nat.le_of_ble_eq_true rfl⟩ hcs (Nat.le_of_ble_eq_true rfl) rfl dL_law_496 (fun r1 M1 W => ?_)
  obtain ⟨x5, rfl⟩ := W_vI W
  obtain ⟨hm, tie⟩ := tie_cross H W
  have hT1 : okT M1 := okT_W W (fun Mc e h => okT_e (by rw [e, moM_2, svM_22]) h) hT
  refine x_istore F dL_law_499 (by decide) ?_
  show WP l E room_1 A Y (k + 6) (n + 36) 501 [vQ b, vA 0, vA 68, vA 79, vI (jI i), vI x5, u6, u7, u8] [] M1
  refine x_aload_n F dL_law_501 rfl ?_
  refine x_arg (j := 1) C (by decide) dL_law_502 dL_law_503 dL_law_505 dL_law_506 dL_law_507 rfl rfl ?_
  refine x_arg (j := 2) C (by decide) dL_law_508 dL_law_509 dL_law_511 dL_law_512 dL_law_513 rfl rfl ?_
  refine x_arg (j := 3) C (by decide) dL_law_514 dL_law_515 dL_law_517 dL_law_518 dL_law_519 rfl rfl ?_
  refine x_V3P F (m_X7_cross (l := l) (Rl_Z hm) (Rl_s hm) (rg_sa _ _) (rg_sa _ _) (rg_sa _ _)) mlL_109 mvX7_cross rfl dL_law_520 (by decide) rfl ⟨Nat.le_of_ble_eq_true rfl, Nat.le_of_ble_eq_true rfl⟩ hcs (Nat.le_of_ble_eq_true rfl) (fun r9 M2 P => ?_)
  obtain ⟨hO, h2⟩ := tie r9 M2 P
  have hT2 : okT M2 := okT_P P (fun e => by rw [e, crZ_2, svt_2]) hT1
  obtain ⟨y, hy, e5, e68, a, rfl, eL⟩ := hO
  exact law_tail C dL_law_523 dL_law_525 dL_law_526 dL_law_529 dL_law_531 dL_law_536 dL_law_538 dL_law_541 dL_law_542 dL_law_543 dL_law_544 dL_law_546 dL_law_547 dL_law_548 dL_law_553 (by decide) ⟨y, hy, e5, e68, a, rfl, eL⟩ (nx _ _ _ _ _ h2 hT2)
set_option maxRecDepth 20000 in
theorem law_turn (C : lwC l E Y A b L xs i k n) (H : Rl M M) (hT : okT M) (nx : lwNx l E Y A b i k n) : WP l E room_1 A Y k n 556 [vQ b, vA 0, vA 68, vA 79, vI (jI i), u5, u6, u7, u8] [] M := by
  obtain ⟨hl, F, hN, -, -, -, -, hcs⟩ := id C
  refine x_aload_n F dL_law_556 rfl ?_
  refine x_arg (j := 1) C (by decide) dL_law_557 dL_law_558 dL_law_560 dL_law_561 dL_law_562 rfl rfl ?_
  refine x_aload_n F dL_law_563 rfl ?_
  refine x_callH (As := [vA 0, vI (jI (sa xs (i + 1))), vA 79]) (st := []) F hN (h_L_turn hl H.1.1 H.2.1.1 (rg_sa _ _)) mlL_110 mhL_turn ⟨Nat.le_of_ble_eq_true rfl, Nat.le_of_ble_eq_true rfl⟩ hcs (Nat.le_of_ble_eq_true rfl) rfl dL_law_564 (fun r1 M1 W => ?_)
  obtain ⟨x5, rfl⟩ := W_vI W
  obtain ⟨hm, tie⟩ := tie_turn H W
  have hT1 : okT M1 := okT_W W (fun Mc e h => okT_e (by rw [e, trM_2, svM_22]) h) hT
  refine x_istore F dL_law_567 (by decide) ?_
  show WP l E room_1 A Y (k + 6) (n + 36) 569 [vQ b, vA 0, vA 68, vA 79, vI (jI i), vI x5, u6, u7, u8] [] M1
  refine x_aload_n F dL_law_569 rfl ?_
  refine x_arg (j := 1) C (by decide) dL_law_570 dL_law_571 dL_law_573 dL_law_574 dL_law_575 rfl rfl ?_
  refine x_V1P F (m_X7_turn (l := l) (Rl_Z hm) (Rl_s hm) (rg_sa _ _)) mlL_113 mvX7_turn rfl dL_law_576 (by decide) rfl ⟨Nat.le_of_ble_eq_true rfl, Nat.le_of_ble_eq_true rfl⟩ hcs (Nat.le_of_ble_eq_true rfl) (fun r9 M2 P => ?_)
  obtain ⟨hO, h2⟩ := tie r9 M2 P
  have hT2 : okT M2 := okT_P P (fun e => by rw [e, trZ_2, svt_2]) hT1
  obtain ⟨y, hy, e5, e68, a, rfl, eL⟩ := hO
  exact law_tail C dL_law_579 dL_law_581 dL_law_582 dL_law_585 dL_law_587 dL_law_592 dL_law_594 dL_law_597 dL_law_598 dL_law_599 dL_law_600 dL_law_602 dL_law_603 dL_law_604 dL_law_609 (by decide) ⟨y, hy, e5, e68, a, rfl, eL⟩ (nx _ _ _ _ _ h2 hT2)
set_option maxRecDepth 20000 in
theorem law_sort (C : lwC l E Y A b L xs i k n) (H : Rl M M) (hT : okT M) (nx : lwNx l E Y A b i k n) : WP l E room_1 A Y k n 612 [vQ b, vA 0, vA 68, vA 79, vI (jI i), u5, u6, u7, u8] [] M := by
  obtain ⟨hl, F, hN, -, -, -, -, hcs⟩ := id C
  refine x_aload_n F dL_law_612 rfl ?_
  refine x_arg (j := 1) C (by decide) dL_law_613 dL_law_614 dL_law_616 dL_law_617 dL_law_618 rfl rfl ?_
  refine x_arg (j := 2) C (by decide) dL_law_619 dL_law_620 dL_law_622 dL_law_623 dL_law_624 rfl rfl ?_
  refine x_aload_n F dL_law_625 rfl ?_
  refine x_callH (As := [vA 0, vI (jI (sa xs (i + 1))), vI (jI (sa xs (i + 2))), vA 79]) (st := []) F hN (h_L_sort hl H.1.1 H.2.1.1 (rg_sa _ _) (rg_sa _ _)) mlL_114 mhL_sort ⟨Nat.le_of_ble_eq_true rfl, Nat.le_of_ble_eq_true rfl⟩ hcs (Nat.le_of_ble_eq_true rfl) rfl dL_law_626 (fun r1 M1 W => ?_)
  obtain ⟨x5, rfl⟩ := W_vI W
  obtain ⟨hm, tie⟩ := tie_sort H W
  have hT1 : okT M1 := okT_W W (fun Mc e h => okT_e (by rw [e, srM_2, svM_22]) h) hT
  refine x_istore F dL_law_629 (by decide) ?_
  show WP l E room_1 A Y (k + 6) (n + 36) 631 [vQ b, vA 0, vA 68, vA 79, vI (jI i), vI x5, u6, u7, u8] [] M1
  refine x_aload_n F dL_law_631 rfl ?_
  refine x_arg (j := 1) C (by decide) dL_law_632 dL_law_633 dL_law_635 dL_law_636 dL_law_637 rfl rfl ?_
  refine x_arg (j := 2) C (by decide) dL_law_638 dL_law_639 dL_law_641 dL_law_642 dL_law_643 rfl rfl ?_
  refine x_V2P F (m_X7_sort (l := l) (Rl_Z hm) (Rl_s hm) (rg_sa _ _) (rg_sa _ _)) mlL_116 mvX7_sort rfl dL_law_644 (by decide) rfl ⟨Nat.le_of_ble_eq_true rfl, Nat.le_of_ble_eq_true rfl⟩ hcs (Nat.le_of_ble_eq_true rfl) (fun r9 M2 P => ?_)
  obtain ⟨hO, h2⟩ := tie r9 M2 P
  have hT2 : okT M2 := okT_P P (fun e => by rw [e, soZ_2, svt_2]) hT1
  obtain ⟨y, hy, e5, e68, a, rfl, eL⟩ := hO
  exact law_tail C dL_law_647 dL_law_649 dL_law_650 dL_law_653 dL_law_655 dL_law_660 dL_law_662 dL_law_665 dL_law_666 dL_law_667 dL_law_668 dL_law_670 dL_law_671 dL_law_672 dL_law_677 (by decide) ⟨y, hy, e5, e68, a, rfl, eL⟩ (nx _ _ _ _ _ h2 hT2)
set_option maxRecDepth 20000 in
theorem law_set (C : lwC l E Y A b L xs i k n) (H : Rl M M) (hT : okT M) (nx : lwNx l E Y A b i k n) : WP l E room_1 A Y k n 680 [vQ b, vA 0, vA 68, vA 79, vI (jI i), u5, u6, u7, u8] [] M := by
  obtain ⟨hl, F, hN, -, -, -, -, hcs⟩ := id C
  refine x_aload_n F dL_law_680 rfl ?_
  refine x_arg (j := 1) C (by decide) dL_law_681 dL_law_682 dL_law_684 dL_law_685 dL_law_686 rfl rfl ?_
  refine x_arg (j := 2) C (by decide) dL_law_687 dL_law_688 dL_law_690 dL_law_691 dL_law_692 rfl rfl ?_
  refine x_aload_n F dL_law_693 rfl ?_
  refine x_callH (As := [vA 0, vI (jI (sa xs (i + 1))), vI (jI (sa xs (i + 2))), vA 79]) (st := []) F hN (h_L_set hl H.1.1 H.2.1.1 (rg_sa _ _) (rg_sa _ _)) mlL_117 mhL_set ⟨Nat.le_of_ble_eq_true rfl, Nat.le_of_ble_eq_true rfl⟩ hcs (Nat.le_of_ble_eq_true rfl) rfl dL_law_694 (fun r1 M1 W => ?_)
  obtain ⟨x5, rfl⟩ := W_vI W
  obtain ⟨hm, tie⟩ := tie_set H W
  have hT1 : okT M1 := okT_W W (fun Mc e h => okT_e (by rw [e, upI_2, svM_22]) h) hT
  refine x_istore F dL_law_697 (by decide) ?_
  show WP l E room_1 A Y (k + 6) (n + 36) 699 [vQ b, vA 0, vA 68, vA 79, vI (jI i), vI x5, u6, u7, u8] [] M1
  refine x_aload_n F dL_law_699 rfl ?_
  refine x_arg (j := 1) C (by decide) dL_law_700 dL_law_701 dL_law_703 dL_law_704 dL_law_705 rfl rfl ?_
  refine x_arg (j := 2) C (by decide) dL_law_706 dL_law_707 dL_law_709 dL_law_710 dL_law_711 rfl rfl ?_
  refine x_V2P F (m_X7_set (l := l) (Rl_Z hm) (Rl_s hm) (rg_sa _ _) (rg_sa _ _)) mlL_119 mvX7_set rfl dL_law_712 (by decide) rfl ⟨Nat.le_of_ble_eq_true rfl, Nat.le_of_ble_eq_true rfl⟩ hcs (Nat.le_of_ble_eq_true rfl) (fun r9 M2 P => ?_)
  obtain ⟨hO, h2⟩ := tie r9 M2 P
  have hT2 : okT M2 := okT_P P (fun e => by rw [e, upI_2, svt_2]) hT1
  obtain ⟨y, hy, e5, e68, a, rfl, eL⟩ := hO
  exact law_tail C dL_law_715 dL_law_717 dL_law_718 dL_law_721 dL_law_723 dL_law_728 dL_law_730 dL_law_733 dL_law_734 dL_law_735 dL_law_736 dL_law_738 dL_law_739 dL_law_740 dL_law_745 (by decide) ⟨y, hy, e5, e68, a, rfl, eL⟩ (nx _ _ _ _ _ h2 hT2)
set_option maxRecDepth 20000 in
theorem law_append (C : lwC l E Y A b L xs i k n) (H : Rl M M) (hT : okT M) (nx : lwNx l E Y A b i k n) : WP l E room_1 A Y k n 748 [vQ b, vA 0, vA 68, vA 79, vI (jI i), u5, u6, u7, u8] [] M := by
  obtain ⟨hl, F, hN, -, -, -, -, hcs⟩ := id C
  refine x_aload_n F dL_law_748 rfl ?_
  refine x_arg (j := 1) C (by decide) dL_law_749 dL_law_750 dL_law_752 dL_law_753 dL_law_754 rfl rfl ?_
  refine x_aload_n F dL_law_755 rfl ?_
  refine x_callH (As := [vA 0, vI (jI (sa xs (i + 1))), vA 79]) (st := []) F hN (h_L_append hl H.1.1 H.2.2.2.1 (rg_sa _ _)) mlL_120 mhL_append ⟨Nat.le_of_ble_eq_true rfl, Nat.le_of_ble_eq_true rfl⟩ hcs (Nat.le_of_ble_eq_true rfl) rfl dL_law_756 (fun r1 M1 W => ?_)
  obtain ⟨x5, rfl⟩ := W_vI W
  obtain ⟨hm, tie⟩ := tie_append H W
  have hT1 : okT M1 := okT_W W (fun Mc e h => okT_e (by rw [e, adM_2]) h) hT
  refine x_istore F dL_law_759 (by decide) ?_
  show WP l E room_1 A Y (k + 6) (n + 36) 761 [vQ b, vA 0, vA 68, vA 79, vI (jI i), vI x5, u6, u7, u8] [] M1
  refine x_aload_n F dL_law_761 rfl ?_
  refine x_arg (j := 1) C (by decide) dL_law_762 dL_law_763 dL_law_765 dL_law_766 dL_law_767 rfl rfl ?_
  refine x_V1P F (m_X7_append (l := l) (Rl_Z hm) (rg_sa _ _) (Rl_W hm).1) mlL_122 mvX7_append rfl dL_law_768 (by decide) rfl ⟨Nat.le_of_ble_eq_true rfl, Nat.le_of_ble_eq_true rfl⟩ hcs (Nat.le_of_ble_eq_true rfl) (fun r9 M2 P => ?_)
  obtain ⟨hO, h2⟩ := tie r9 M2 P
  have hT2 : okT M2 := okT_P P (fun e => by rw [e]; rfl) hT1
  obtain ⟨y, hy, e5, e68, a, rfl, eL⟩ := hO
  exact law_tail C dL_law_771 dL_law_773 dL_law_774 dL_law_777 dL_law_779 dL_law_784 dL_law_786 dL_law_789 dL_law_790 dL_law_791 dL_law_792 dL_law_794 dL_law_795 dL_law_796 dL_law_801 (by decide) ⟨y, hy, e5, e68, a, rfl, eL⟩ (nx _ _ _ _ _ h2 hT2)
set_option maxRecDepth 20000 in
theorem law_clearBuffer (C : lwC l E Y A b L xs i k n) (H : Rl M M) (hT : okT M) (nx : lwNx l E Y A b i k n) : WP l E room_1 A Y k n 804 [vQ b, vA 0, vA 68, vA 79, vI (jI i), u5, u6, u7, u8] [] M := by
  obtain ⟨hl, F, hN, -, -, -, -, hcs⟩ := id C
  refine x_wid (k' := k + 6) (n' := n + 36) (by omega) (by omega) ?_
  refine x_aload_n F dL_law_804 rfl ?_
  refine x_V0 F (m_X6_clearBuffer (l := l)) mlL_123 mvX6_clearBuffer rfl dL_law_805 (by decide) rfl ⟨Nat.le_of_ble_eq_true rfl, Nat.le_of_ble_eq_true rfl⟩ hcs (Nat.le_of_ble_eq_true rfl) ?_
  refine x_aload_n F dL_law_808 rfl ?_
  obtain ⟨hm, tie⟩ := tie_clear H rfl
  obtain ⟨e, h2⟩ := tie _ rfl
  refine x_V0 F (m_X7_clearBuffer (l := l)) mlL_126 mvX7_clearBuffer rfl dL_law_809 (by decide) rfl ⟨Nat.le_of_ble_eq_true rfl, Nat.le_of_ble_eq_true rfl⟩ hcs (Nat.le_of_ble_eq_true rfl) ?_
  refine x_icmp_eq (tgt := 1618) F dL_law_812 (by decide) (fun _ => nx _ _ _ _ _ h2 (okT_e1 (M := M) rfl hT)) (fun z => absurd e z)
set_option maxRecDepth 20000 in
theorem law_firstError (C : lwC l E Y A b L xs i k n) (H : Rl M M) (hT : okT M) (nx : lwNx l E Y A b i k n) : WP l E room_1 A Y k n 817 [vQ b, vA 0, vA 68, vA 79, vI (jI i), u5, u6, u7, u8] [] M := by
  obtain ⟨hl, F, hN, -, -, -, -, hcs⟩ := id C
  refine x_wid (k' := k + 6) (n' := n + 36) (by omega) (by omega) ?_
  refine x_aload_n F dL_law_817 rfl ?_
  refine x_V0 F (m_X6_firstError (l := l) H.2.2.2.1) mlL_127 mvX6_firstError rfl dL_law_818 (by decide) rfl ⟨Nat.le_of_ble_eq_true rfl, Nat.le_of_ble_eq_true rfl⟩ hcs (Nat.le_of_ble_eq_true rfl) ?_
  refine x_aload_n F dL_law_821 rfl ?_
  have hm := H
  refine x_V0P F (m_X7_firstError (l := l) (Rl_W hm)) mlL_130 mvX7_firstError rfl dL_law_822 (by decide) rfl ⟨Nat.le_of_ble_eq_true rfl, Nat.le_of_ble_eq_true rfl⟩ hcs (Nat.le_of_ble_eq_true rfl) (fun r9 M2 P => ?_)
  obtain ⟨rfl, M9, hx, rfl⟩ := P
  have lk := lkT_rdX (s := (fzZ (t0 M)).1) hx
  have h2 := Rl_look H (qX_rfl M) lk
  have e := congrArg jI (fe_tie (Rl_t0 H)).1
  refine x_icmp_eq (tgt := 1618) F dL_law_825 (by decide) (fun _ => nx _ _ _ _ _ h2 (okT_e1 (lk.2.2.2.1.trans rfl) hT)) (fun z => absurd e z)
set_option maxRecDepth 20000 in
theorem law_chant (C : lwC l E Y A b L xs i k n) (H : Rl M M) (hT : okT M) (nx : lwNx l E Y A b i k n) : WP l E room_1 A Y k n 830 [vQ b, vA 0, vA 68, vA 79, vI (jI i), u5, u6, u7, u8] [] M := by
  obtain ⟨hl, F, hN, -, -, -, -, hcs⟩ := id C
  refine x_aload_n F dL_law_830 rfl ?_
  refine x_aload_n F dL_law_831 rfl ?_
  refine x_callH (As := [vA 0, vA 79]) (st := []) F hN (h_L_chant hl H.1.1 H.2.1.1 H.2.2.2.1) mlL_131 mhL_chant ⟨Nat.le_of_ble_eq_true rfl, Nat.le_of_ble_eq_true rfl⟩ hcs (Nat.le_of_ble_eq_true rfl) rfl dL_law_832 (fun r1 M1 W => ?_)
  obtain ⟨x5, rfl⟩ := W_vI W
  obtain ⟨hm, tie⟩ := tie_chant H W
  have hT1 : okT M1 := okT_W W (fun Mc e h => okT_e (by rw [e, upI_2, chN_2, svM_22]) h) hT
  refine x_istore F dL_law_835 (by decide) ?_
  show WP l E room_1 A Y (k + 6) (n + 36) 837 [vQ b, vA 0, vA 68, vA 79, vI (jI i), vI x5, u6, u7, u8] [] M1
  refine x_aload_n F dL_law_837 rfl ?_
  refine x_V0P F (m_X7_chant (l := l) (Rl_Z hm) (Rl_W hm) (Rl_s hm)) mlL_134 mvX7_chant rfl dL_law_838 (by decide) rfl ⟨Nat.le_of_ble_eq_true rfl, Nat.le_of_ble_eq_true rfl⟩ hcs (Nat.le_of_ble_eq_true rfl) (fun r9 M2 P => ?_)
  obtain ⟨hO, h2⟩ := tie r9 M2 P
  have hT2 : okT M2 := by
    by_cases hw : wcP (t0 M1) = true
    · obtain ⟨M9, hx, -, -, e⟩ := P.2 hw
      refine okT_e1 ?_ hT1
      rw [e, upI_2, cnZ_2, svZ_2]
      exact congrArg Prod.fst hx.2.2
    · obtain ⟨-, M9, hx, e⟩ := P.1 hw
      refine okT_e1 ?_ hT1
      rw [e, upI_2]
      exact congrArg Prod.fst hx.2.2
  obtain ⟨y, hy, e5, e68, a, rfl, eL⟩ := hO
  exact law_tail C dL_law_841 dL_law_843 dL_law_844 dL_law_847 dL_law_849 dL_law_854 dL_law_856 dL_law_859 dL_law_860 dL_law_861 dL_law_862 dL_law_864 dL_law_865 dL_law_866 dL_law_871 (by decide) ⟨y, hy, e5, e68, a, rfl, eL⟩ (nx _ _ _ _ _ h2 hT2)
set_option maxRecDepth 20000 in
theorem law_written (C : lwC l E Y A b L xs i k n) (H : Rl M M) (hT : okT M) (nx : lwNx l E Y A b i k n) : WP l E room_1 A Y k n 874 [vQ b, vA 0, vA 68, vA 79, vI (jI i), u5, u6, u7, u8] [] M := by
  obtain ⟨hl, F, hN, -, -, -, -, hcs⟩ := id C
  refine x_aload_n F dL_law_874 rfl ?_
  refine x_arg (j := 1) C (by decide) dL_law_875 dL_law_876 dL_law_878 dL_law_879 dL_law_880 rfl rfl ?_
  refine x_arg (j := 2) C (by decide) dL_law_881 dL_law_882 dL_law_884 dL_law_885 dL_law_886 rfl rfl ?_
  refine x_aload_n F dL_law_887 rfl ?_
  refine x_callH (As := [vA 0, vI (jI (sa xs (i + 1))), vI (jI (sa xs (i + 2))), vA 79]) (st := []) F hN (h_L_written hl H.1.1 (rg_sa _ _) (rg_sa _ _)) mlL_135 mhL_written ⟨Nat.le_of_ble_eq_true rfl, Nat.le_of_ble_eq_true rfl⟩ hcs (Nat.le_of_ble_eq_true rfl) rfl dL_law_888 (fun r1 M1 W => ?_)
  obtain ⟨x5, rfl⟩ := W_vI W
  obtain ⟨hm, tie⟩ := tie_written H W
  have hT1 : okT M1 := okT_W W (fun Mc e h => okT_e (by rw [e]) h) hT
  refine x_istore F dL_law_891 (by decide) ?_
  show WP l E room_1 A Y (k + 6) (n + 36) 893 [vQ b, vA 0, vA 68, vA 79, vI (jI i), vI x5, u6, u7, u8] [] M1
  refine x_aload_n F dL_law_893 rfl ?_
  refine x_arg (j := 1) C (by decide) dL_law_894 dL_law_895 dL_law_897 dL_law_898 dL_law_899 rfl rfl ?_
  refine x_arg (j := 2) C (by decide) dL_law_900 dL_law_901 dL_law_903 dL_law_904 dL_law_905 rfl rfl ?_
  refine x_V2P F (m_X7_written (l := l) (Rl_Z hm) (rg_sa _ _) (rg_sa _ _) (fun q p a0 a1 a2 a3 => (Rl_hV hm q p a0 a1 a2 a3).1)) mlL_137 mvX7_written rfl dL_law_906 (by decide) rfl ⟨Nat.le_of_ble_eq_true rfl, Nat.le_of_ble_eq_true rfl⟩ hcs (Nat.le_of_ble_eq_true rfl) (fun r9 M2 P => ?_)
  obtain ⟨hO, h2⟩ := tie r9 M2 P
  have hT2 : okT M2 := okT_P P (fun e => by rw [e]; rfl) hT1
  obtain ⟨y, hy, e5, e68, a, rfl, eL⟩ := hO
  exact law_tail C dL_law_909 dL_law_911 dL_law_912 dL_law_915 dL_law_917 dL_law_922 dL_law_924 dL_law_927 dL_law_928 dL_law_929 dL_law_930 dL_law_932 dL_law_933 dL_law_934 dL_law_939 (by decide) ⟨y, hy, e5, e68, a, rfl, eL⟩ (nx _ _ _ _ _ h2 hT2)
set_option maxRecDepth 20000 in
theorem law_undo (C : lwC l E Y A b L xs i k n) (H : Rl M M) (hT : okT M) (nx : lwNx l E Y A b i k n) : WP l E room_1 A Y k n 942 [vQ b, vA 0, vA 68, vA 79, vI (jI i), u5, u6, u7, u8] [] M := by
  obtain ⟨hl, F, hN, -, -, -, -, hcs⟩ := id C
  refine x_aload_n F dL_law_942 rfl ?_
  refine x_aload_n F dL_law_943 rfl ?_
  refine x_callH (As := [vA 0, vA 79]) (st := []) F hN (h_L_undo hl H.1.1 H.2.1.1) mlL_138 mhL_undo ⟨Nat.le_of_ble_eq_true rfl, Nat.le_of_ble_eq_true rfl⟩ hcs (Nat.le_of_ble_eq_true rfl) rfl dL_law_944 (fun r1 M1 W => ?_)
  obtain ⟨x5, rfl⟩ := W_vI W
  obtain ⟨hm, tie⟩ := tie_undo H W
  have hT1 : okT M1 := okT_W W (fun Mc e h => okT_e (by rw [e, tkM_2]) h) hT
  refine x_istore F dL_law_947 (by decide) ?_
  show WP l E room_1 A Y (k + 6) (n + 36) 949 [vQ b, vA 0, vA 68, vA 79, vI (jI i), vI x5, u6, u7, u8] [] M1
  refine x_aload_n F dL_law_949 rfl ?_
  refine x_V0P F (m_X7_undo (l := l) (Rl_s hm)) mlL_140 mvX7_undo rfl dL_law_950 (by decide) rfl ⟨Nat.le_of_ble_eq_true rfl, Nat.le_of_ble_eq_true rfl⟩ hcs (Nat.le_of_ble_eq_true rfl) (fun r9 M2 P => ?_)
  obtain ⟨hO, h2⟩ := tie r9 M2 P
  have hT2 : okT M2 := okT_P P (fun e => by rw [e]; rfl) hT1
  obtain ⟨y, hy, e5, e68, a, rfl, eL⟩ := hO
  exact law_tail C dL_law_953 dL_law_955 dL_law_956 dL_law_959 dL_law_961 dL_law_966 dL_law_968 dL_law_971 dL_law_972 dL_law_973 dL_law_974 dL_law_976 dL_law_977 dL_law_978 dL_law_983 (by decide) ⟨y, hy, e5, e68, a, rfl, eL⟩ (nx _ _ _ _ _ h2 hT2)
set_option maxRecDepth 20000 in
theorem law_keep (C : lwC l E Y A b L xs i k n) (H : Rl M M) (hT : okT M) (nx : lwNx l E Y A b i k n) : WP l E room_1 A Y k n 986 [vQ b, vA 0, vA 68, vA 79, vI (jI i), u5, u6, u7, u8] [] M := by
  obtain ⟨hl, F, hN, -, -, -, -, hcs⟩ := id C
  refine x_wid (k' := k + 6) (n' := n + 36) (by omega) (by omega) ?_
  refine x_aload_n F dL_law_986 rfl ?_
  refine x_V0 F (m_X6_keep (l := l) H.1.1) mlL_141 mvX6_keep rfl dL_law_987 (by decide) rfl ⟨Nat.le_of_ble_eq_true rfl, Nat.le_of_ble_eq_true rfl⟩ hcs (Nat.le_of_ble_eq_true rfl) ?_
  refine x_aload_n F dL_law_990 rfl ?_
  obtain ⟨hm, tie⟩ := tie_keep H rfl
  obtain ⟨e, h2⟩ := tie _ rfl
  refine x_V0 F (m_X7_keep (l := l)) mlL_144 mvX7_keep rfl dL_law_991 (by decide) rfl ⟨Nat.le_of_ble_eq_true rfl, Nat.le_of_ble_eq_true rfl⟩ hcs (Nat.le_of_ble_eq_true rfl) ?_
  refine x_icmp_eq (tgt := 1618) F dL_law_994 (by decide) (fun _ => nx _ _ _ _ _ h2 (okT_e1 (M := M) (by rw [upI_2, show ∀ (N : xM) (a c d f g : Nat), (cpK N a c d f g).2 = N.2 from fun _ _ _ _ _ _ => rfl, upI_2, upI_2, bcM_2 _ _ _ ch11 ch1 (by decide)]) hT)) (fun z => absurd e z)
set_option maxRecDepth 20000 in
theorem law_restore (C : lwC l E Y A b L xs i k n) (H : Rl M M) (hT : okT M) (nx : lwNx l E Y A b i k n) : WP l E room_1 A Y k n 999 [vQ b, vA 0, vA 68, vA 79, vI (jI i), u5, u6, u7, u8] [] M := by
  obtain ⟨hl, F, hN, -, -, -, -, hcs⟩ := id C
  refine x_aload_n F dL_law_999 rfl ?_
  refine x_aload_n F dL_law_1000 rfl ?_
  refine x_callH (As := [vA 0, vA 79]) (st := []) F hN (h_L_restore hl H.1.1 H.2.1.1 H.2.2.1.2.2.1 H.2.2.1.1) mlL_145 mhL_restore ⟨Nat.le_of_ble_eq_true rfl, Nat.le_of_ble_eq_true rfl⟩ hcs (Nat.le_of_ble_eq_true rfl) rfl dL_law_1001 (fun r1 M1 W => ?_)
  obtain ⟨x5, rfl⟩ := W_vI W
  obtain ⟨hm, tie⟩ := tie_restore H W
  have hT1 : okT M1 := okT_W W (fun Mc e h => okT_e (by rw [e, bcM_2 _ _ _ ch1 ch11 (by decide), svM_22]) h) hT
  refine x_istore F dL_law_1004 (by decide) ?_
  show WP l E room_1 A Y (k + 6) (n + 36) 1006 [vQ b, vA 0, vA 68, vA 79, vI (jI i), vI x5, u6, u7, u8] [] M1
  refine x_aload_n F dL_law_1006 rfl ?_
  refine x_V0P F (m_X7_restore (l := l) (Rl_s hm)) mlL_147 mvX7_restore rfl dL_law_1007 (by decide) rfl ⟨Nat.le_of_ble_eq_true rfl, Nat.le_of_ble_eq_true rfl⟩ hcs (Nat.le_of_ble_eq_true rfl) (fun r9 M2 P => ?_)
  obtain ⟨hO, h2⟩ := tie r9 M2 P
  have hT2 : okT M2 := okT_P P (fun e => by rw [e]; exact congrArg Prod.fst (svt_2 _)) hT1
  obtain ⟨y, hy, e5, e68, a, rfl, eL⟩ := hO
  exact law_tail C dL_law_1010 dL_law_1012 dL_law_1013 dL_law_1016 dL_law_1018 dL_law_1023 dL_law_1025 dL_law_1028 dL_law_1029 dL_law_1030 dL_law_1031 dL_law_1033 dL_law_1034 dL_law_1035 dL_law_1040 (by decide) ⟨y, hy, e5, e68, a, rfl, eL⟩ (nx _ _ _ _ _ h2 hT2)
set_option maxRecDepth 20000 in
theorem law_singer (C : lwC l E Y A b L xs i k n) (H : Rl M M) (hT : okT M) (nx : lwNx l E Y A b i k n) : WP l E room_1 A Y k n 1043 [vQ b, vA 0, vA 68, vA 79, vI (jI i), u5, u6, u7, u8] [] M := by
  obtain ⟨hl, F, hN, -, -, -, -, hcs⟩ := id C
  refine x_aload_n F dL_law_1043 rfl ?_
  refine x_arg (j := 1) C (by decide) dL_law_1044 dL_law_1045 dL_law_1047 dL_law_1048 dL_law_1049 rfl rfl ?_
  refine x_arg (j := 2) C (by decide) dL_law_1050 dL_law_1051 dL_law_1053 dL_law_1054 dL_law_1055 rfl rfl ?_
  refine x_arg (j := 3) C (by decide) dL_law_1056 dL_law_1057 dL_law_1059 dL_law_1060 dL_law_1061 rfl rfl ?_
  refine x_aload_n F dL_law_1062 rfl ?_
  refine x_callH (As := [vA 0, vI (jI (sa xs (i + 1))), vI (jI (sa xs (i + 2))), vI (jI (sa xs (i + 3))), vA 79]) (st := []) F hN (h_L_singer hl H.1.1 hT (rg_sa _ _) (rg_sa _ _) (rg_sa _ _)) mlL_148 mhL_singer ⟨Nat.le_of_ble_eq_true rfl, Nat.le_of_ble_eq_true rfl⟩ hcs (Nat.le_of_ble_eq_true rfl) rfl dL_law_1063 (fun r1 M1 W => ?_)
  obtain ⟨x5, rfl⟩ := W_vI W
  obtain ⟨hm, tie⟩ := tie_singer H W
  have hT1 : okT M1 := okT_W W (fun Mc e h => e.2.1 h) hT
  refine x_istore F dL_law_1066 (by decide) ?_
  show WP l E room_1 A Y (k + 6) (n + 36) 1068 [vQ b, vA 0, vA 68, vA 79, vI (jI i), vI x5, u6, u7, u8] [] M1
  refine x_aload_n F dL_law_1068 rfl ?_
  refine x_arg (j := 1) C (by decide) dL_law_1069 dL_law_1070 dL_law_1072 dL_law_1073 dL_law_1074 rfl rfl ?_
  refine x_arg (j := 2) C (by decide) dL_law_1075 dL_law_1076 dL_law_1078 dL_law_1079 dL_law_1080 rfl rfl ?_
  refine x_arg (j := 3) C (by decide) dL_law_1081 dL_law_1082 dL_law_1084 dL_law_1085 dL_law_1086 rfl rfl ?_
  refine x_V3P F (m_X7_singer (l := l) (Rl_Z hm) (rg_sa _ _) (rg_sa _ _) (rg_sa _ _)) mlL_150 mvX7_singer rfl dL_law_1087 (by decide) rfl ⟨Nat.le_of_ble_eq_true rfl, Nat.le_of_ble_eq_true rfl⟩ hcs (Nat.le_of_ble_eq_true rfl) (fun r9 M2 P => ?_)
  obtain ⟨hO, h2⟩ := tie r9 M2 P
  have hT2 : okT M2 := okT_P P (fun e => by rw [e]; rfl) hT1
  obtain ⟨y, hy, e5, e68, a, rfl, eL⟩ := hO
  exact law_tail C dL_law_1090 dL_law_1092 dL_law_1093 dL_law_1096 dL_law_1098 dL_law_1103 dL_law_1105 dL_law_1108 dL_law_1109 dL_law_1110 dL_law_1111 dL_law_1113 dL_law_1114 dL_law_1115 dL_law_1120 (by decide) ⟨y, hy, e5, e68, a, rfl, eL⟩ (nx _ _ _ _ _ h2 hT2)
set_option maxRecDepth 20000 in
theorem law_row (C : lwC l E Y A b L xs i k n) (H : Rl M M) (hT : okT M) (nx : lwNx l E Y A b i k n) : WP l E room_1 A Y k n 1123 [vQ b, vA 0, vA 68, vA 79, vI (jI i), u5, u6, u7, u8] [] M := by
  obtain ⟨hl, F, hN, -, -, -, -, hcs⟩ := id C
  refine x_aload_n F dL_law_1123 rfl ?_
  refine x_arg (j := 1) C (by decide) dL_law_1124 dL_law_1125 dL_law_1127 dL_law_1128 dL_law_1129 rfl rfl ?_
  refine x_arg (j := 2) C (by decide) dL_law_1130 dL_law_1131 dL_law_1133 dL_law_1134 dL_law_1135 rfl rfl ?_
  refine x_aload_n F dL_law_1136 rfl ?_
  refine x_callH (As := [vA 0, vI (jI (sa xs (i + 1))), vI (jI (sa xs (i + 2))), vA 79]) (st := []) F hN (h_L_row hl H.1.1 (rg_sa _ _) (rg_sa _ _)) mlL_151 mhL_row ⟨Nat.le_of_ble_eq_true rfl, Nat.le_of_ble_eq_true rfl⟩ hcs (Nat.le_of_ble_eq_true rfl) rfl dL_law_1137 (fun r1 M1 W => ?_)
  obtain ⟨x5, rfl⟩ := W_vI W
  obtain ⟨hm, tie⟩ := tie_row H W
  have hT1 : okT M1 := okT_W W (fun Mc e h => e.2.1 h) hT
  refine x_istore F dL_law_1140 (by decide) ?_
  show WP l E room_1 A Y (k + 6) (n + 36) 1142 [vQ b, vA 0, vA 68, vA 79, vI (jI i), vI x5, u6, u7, u8] [] M1
  refine x_aload_n F dL_law_1142 rfl ?_
  refine x_arg (j := 1) C (by decide) dL_law_1143 dL_law_1144 dL_law_1146 dL_law_1147 dL_law_1148 rfl rfl ?_
  refine x_arg (j := 2) C (by decide) dL_law_1149 dL_law_1150 dL_law_1152 dL_law_1153 dL_law_1154 rfl rfl ?_
  refine x_V2P F (m_X7_row (l := l) (Rl_Z hm) (rg_sa _ _) (rg_sa _ _)) mlL_153 mvX7_row rfl dL_law_1155 (by decide) rfl ⟨Nat.le_of_ble_eq_true rfl, Nat.le_of_ble_eq_true rfl⟩ hcs (Nat.le_of_ble_eq_true rfl) (fun r9 M2 P => ?_)
  obtain ⟨hO, h2⟩ := tie r9 M2 P
  have hT2 : okT M2 := okT_P P (fun e => (congrArg Prod.fst e.2.2).trans rfl) hT1
  obtain ⟨y, hy, e5, e68, a, rfl, eL⟩ := hO
  exact law_tail C dL_law_1158 dL_law_1160 dL_law_1161 dL_law_1164 dL_law_1166 dL_law_1171 dL_law_1173 dL_law_1176 dL_law_1177 dL_law_1178 dL_law_1179 dL_law_1181 dL_law_1182 dL_law_1183 dL_law_1188 (by decide) ⟨y, hy, e5, e68, a, rfl, eL⟩ (nx _ _ _ _ _ h2 hT2)
set_option maxRecDepth 20000 in
theorem law_find (C : lwC l E Y A b L xs i k n) (H : Rl M M) (hT : okT M) (nx : lwNx l E Y A b i k n) : WP l E room_1 A Y k n 1191 [vQ b, vA 0, vA 68, vA 79, vI (jI i), u5, u6, u7, u8] [] M := by
  obtain ⟨hl, F, hN, -, -, -, -, hcs⟩ := id C
  refine x_aload_n F dL_law_1191 rfl ?_
  refine x_arg (j := 1) C (by decide) dL_law_1192 dL_law_1193 dL_law_1195 dL_law_1196 dL_law_1197 rfl rfl ?_
  refine x_aload_n F dL_law_1198 rfl ?_
  refine x_callH (As := [vA 0, vI (jI (sa xs (i + 1))), vA 79]) (st := []) F hN (h_L_find hl H.1.1 (rg_sa _ _)) mlL_154 mhL_find ⟨Nat.le_of_ble_eq_true rfl, Nat.le_of_ble_eq_true rfl⟩ hcs (Nat.le_of_ble_eq_true rfl) rfl dL_law_1199 (fun r1 M1 W => ?_)
  obtain ⟨x5, rfl⟩ := W_vI W
  obtain ⟨hm, tie⟩ := tie_find H W
  have hT1 : okT M1 := okT_W W (fun Mc e h => okT_e (by rw [e]) h) hT
  refine x_istore F dL_law_1202 (by decide) ?_
  show WP l E room_1 A Y (k + 6) (n + 36) 1204 [vQ b, vA 0, vA 68, vA 79, vI (jI i), vI x5, u6, u7, u8] [] M1
  refine x_aload_n F dL_law_1204 rfl ?_
  refine x_arg (j := 1) C (by decide) dL_law_1205 dL_law_1206 dL_law_1208 dL_law_1209 dL_law_1210 rfl rfl ?_
  refine x_V1P F (m_X7_find (l := l) (Rl_Z hm) (rg_sa _ _)) mlL_156 mvX7_find rfl dL_law_1211 (by decide) rfl ⟨Nat.le_of_ble_eq_true rfl, Nat.le_of_ble_eq_true rfl⟩ hcs (Nat.le_of_ble_eq_true rfl) (fun r9 M2 P => ?_)
  obtain ⟨hO, h2⟩ := tie r9 M2 P
  have hT2 : okT M2 := okT_P P (fun e => by rw [e]; rfl) hT1
  obtain ⟨y, hy, e5, e68, a, rfl, eL⟩ := hO
  exact law_tail C dL_law_1214 dL_law_1216 dL_law_1217 dL_law_1220 dL_law_1222 dL_law_1227 dL_law_1229 dL_law_1232 dL_law_1233 dL_law_1234 dL_law_1235 dL_law_1237 dL_law_1238 dL_law_1239 dL_law_1244 (by decide) ⟨y, hy, e5, e68, a, rfl, eL⟩ (nx _ _ _ _ _ h2 hT2)
set_option maxRecDepth 20000 in
theorem law_count (C : lwC l E Y A b L xs i k n) (H : Rl M M) (hT : okT M) (nx : lwNx l E Y A b i k n) : WP l E room_1 A Y k n 1247 [vQ b, vA 0, vA 68, vA 79, vI (jI i), u5, u6, u7, u8] [] M := by
  obtain ⟨hl, F, hN, -, -, -, -, hcs⟩ := id C
  refine x_aload_n F dL_law_1247 rfl ?_
  refine x_arg (j := 1) C (by decide) dL_law_1248 dL_law_1249 dL_law_1251 dL_law_1252 dL_law_1253 rfl rfl ?_
  refine x_aload_n F dL_law_1254 rfl ?_
  refine x_callH (As := [vA 0, vI (jI (sa xs (i + 1))), vA 79]) (st := []) F hN (h_L_count hl H.1.1 (rg_sa _ _)) mlL_157 mhL_count ⟨Nat.le_of_ble_eq_true rfl, Nat.le_of_ble_eq_true rfl⟩ hcs (Nat.le_of_ble_eq_true rfl) rfl dL_law_1255 (fun r1 M1 W => ?_)
  obtain ⟨x5, rfl⟩ := W_vI W
  obtain ⟨hm, tie⟩ := tie_count H W
  have hT1 : okT M1 := okT_W W (fun Mc e h => okT_e (by rw [e]) h) hT
  refine x_istore F dL_law_1258 (by decide) ?_
  show WP l E room_1 A Y (k + 6) (n + 36) 1260 [vQ b, vA 0, vA 68, vA 79, vI (jI i), vI x5, u6, u7, u8] [] M1
  refine x_aload_n F dL_law_1260 rfl ?_
  refine x_arg (j := 1) C (by decide) dL_law_1261 dL_law_1262 dL_law_1264 dL_law_1265 dL_law_1266 rfl rfl ?_
  refine x_V1P F (m_X7_count (l := l) (Rl_Z hm) (rg_sa _ _)) mlL_159 mvX7_count rfl dL_law_1267 (by decide) rfl ⟨Nat.le_of_ble_eq_true rfl, Nat.le_of_ble_eq_true rfl⟩ hcs (Nat.le_of_ble_eq_true rfl) (fun r9 M2 P => ?_)
  obtain ⟨hO, h2⟩ := tie r9 M2 P
  have hT2 : okT M2 := okT_P P (fun e => by rw [e]; rfl) hT1
  obtain ⟨y, hy, e5, e68, a, rfl, eL⟩ := hO
  exact law_tail C dL_law_1270 dL_law_1272 dL_law_1273 dL_law_1276 dL_law_1278 dL_law_1283 dL_law_1285 dL_law_1288 dL_law_1289 dL_law_1290 dL_law_1291 dL_law_1293 dL_law_1294 dL_law_1295 dL_law_1300 (by decide) ⟨y, hy, e5, e68, a, rfl, eL⟩ (nx _ _ _ _ _ h2 hT2)
set_option maxRecDepth 20000 in
theorem law_ifSwapped (C : lwC l E Y A b L xs i k n) (H : Rl M M) (hT : okT M) (nx : lwNx l E Y A b i k n) : WP l E room_1 A Y k n 1303 [vQ b, vA 0, vA 68, vA 79, vI (jI i), u5, u6, u7, u8] [] M := by
  obtain ⟨hl, F, hN, -, -, -, -, hcs⟩ := id C
  refine x_aload_n F dL_law_1303 rfl ?_
  refine x_arg (j := 1) C (by decide) dL_law_1304 dL_law_1305 dL_law_1307 dL_law_1308 dL_law_1309 rfl rfl ?_
  refine x_arg (j := 2) C (by decide) dL_law_1310 dL_law_1311 dL_law_1313 dL_law_1314 dL_law_1315 rfl rfl ?_
  refine x_arg (j := 3) C (by decide) dL_law_1316 dL_law_1317 dL_law_1319 dL_law_1320 dL_law_1321 rfl rfl ?_
  refine x_arg (j := 4) C (by decide) dL_law_1322 dL_law_1323 dL_law_1325 dL_law_1326 dL_law_1327 rfl rfl ?_
  refine x_aload_n F dL_law_1328 rfl ?_
  refine x_callH (As := [vA 0, vI (jI (sa xs (i + 1))), vI (jI (sa xs (i + 2))), vI (jI (sa xs (i + 3))), vI (jI (sa xs (i + 4))), vA 79]) (st := []) F hN (h_L_ifSwapped hl H.1.1 (rg_sa _ _) (rg_sa _ _) (rg_sa _ _) (rg_sa _ _)) mlL_160 mhL_ifSwapped ⟨Nat.le_of_ble_eq_true rfl, Nat.le_of_ble_eq_true rfl⟩ hcs (Nat.le_of_ble_eq_true rfl) rfl dL_law_1329 (fun r1 M1 W => ?_)
  obtain ⟨x5, rfl⟩ := W_vI W
  obtain ⟨hm, tie⟩ := tie_ifSwapped H W
  have hT1 : okT M1 := okT_W W (fun Mc e h => e.2.1 h) hT
  refine x_istore F dL_law_1332 (by decide) ?_
  show WP l E room_1 A Y (k + 6) (n + 36) 1334 [vQ b, vA 0, vA 68, vA 79, vI (jI i), vI x5, u6, u7, u8] [] M1
  refine x_aload_n F dL_law_1334 rfl ?_
  refine x_arg (j := 1) C (by decide) dL_law_1335 dL_law_1336 dL_law_1338 dL_law_1339 dL_law_1340 rfl rfl ?_
  refine x_arg (j := 2) C (by decide) dL_law_1341 dL_law_1342 dL_law_1344 dL_law_1345 dL_law_1346 rfl rfl ?_
  refine x_arg (j := 3) C (by decide) dL_law_1347 dL_law_1348 dL_law_1350 dL_law_1351 dL_law_1352 rfl rfl ?_
  refine x_arg (j := 4) C (by decide) dL_law_1353 dL_law_1354 dL_law_1356 dL_law_1357 dL_law_1358 rfl rfl ?_
  refine x_V4P F (m_X7_ifSwapped (l := l) (Rl_Z hm) (rg_sa _ _) (rg_sa _ _) (rg_sa _ _) (rg_sa _ _)) mlL_162 mvX7_ifSwapped rfl dL_law_1359 (by decide) rfl ⟨Nat.le_of_ble_eq_true rfl, Nat.le_of_ble_eq_true rfl⟩ hcs (Nat.le_of_ble_eq_true rfl) (fun r9 M2 P => ?_)
  obtain ⟨hO, h2⟩ := tie r9 M2 P
  have hT2 : okT M2 := okT_P P (fun e => by rw [e]; rfl) hT1
  obtain ⟨y, hy, e5, e68, a, rfl, eL⟩ := hO
  exact law_tail C dL_law_1362 dL_law_1364 dL_law_1365 dL_law_1368 dL_law_1370 dL_law_1375 dL_law_1377 dL_law_1380 dL_law_1381 dL_law_1382 dL_law_1383 dL_law_1385 dL_law_1386 dL_law_1387 dL_law_1392 (by decide) ⟨y, hy, e5, e68, a, rfl, eL⟩ (nx _ _ _ _ _ h2 hT2)
set_option maxRecDepth 20000 in
theorem law_bestSwap (C : lwC l E Y A b L xs i k n) (H : Rl M M) (hT : okT M) (nx : lwNx l E Y A b i k n) : WP l E room_1 A Y k n 1395 [vQ b, vA 0, vA 68, vA 79, vI (jI i), u5, u6, u7, u8] [] M := by
  obtain ⟨hl, F, hN, -, -, -, -, hcs⟩ := id C
  refine x_aload_n F dL_law_1395 rfl ?_
  refine x_arg (j := 1) C (by decide) dL_law_1396 dL_law_1397 dL_law_1399 dL_law_1400 dL_law_1401 rfl rfl ?_
  refine x_aload_n F dL_law_1402 rfl ?_
  refine x_callH (As := [vA 0, vI (jI (sa xs (i + 1))), vA 79]) (st := []) F hN (h_L_bestSwap hl H.1.1 (rg_sa _ _)) mlL_163 mhL_bestSwap ⟨Nat.le_of_ble_eq_true rfl, Nat.le_of_ble_eq_true rfl⟩ hcs (Nat.le_of_ble_eq_true rfl) rfl dL_law_1403 (fun r1 M1 W => ?_)
  obtain ⟨x5, rfl⟩ := W_vI W
  obtain ⟨hm, tie⟩ := tie_bestSwap H W
  have hT1 : okT M1 := okT_W W (fun Mc e h => e.2.1 h) hT
  refine x_istore F dL_law_1406 (by decide) ?_
  show WP l E room_1 A Y (k + 6) (n + 36) 1408 [vQ b, vA 0, vA 68, vA 79, vI (jI i), vI x5, u6, u7, u8] [] M1
  refine x_aload_n F dL_law_1408 rfl ?_
  refine x_arg (j := 1) C (by decide) dL_law_1409 dL_law_1410 dL_law_1412 dL_law_1413 dL_law_1414 rfl rfl ?_
  refine x_V1P F (m_X7_bestSwap (l := l) (Rl_Z hm) (rg_sa _ _)) mlL_165 mvX7_bestSwap rfl dL_law_1415 (by decide) rfl ⟨Nat.le_of_ble_eq_true rfl, Nat.le_of_ble_eq_true rfl⟩ hcs (Nat.le_of_ble_eq_true rfl) (fun r9 M2 P => ?_)
  obtain ⟨hO, h2⟩ := tie r9 M2 P
  have hT2 : okT M2 := okT_P P (fun e => by rw [e]; rfl) hT1
  obtain ⟨y, hy, e5, e68, a, rfl, eL⟩ := hO
  exact law_tail C dL_law_1418 dL_law_1420 dL_law_1421 dL_law_1424 dL_law_1426 dL_law_1431 dL_law_1433 dL_law_1436 dL_law_1437 dL_law_1438 dL_law_1439 dL_law_1441 dL_law_1442 dL_law_1443 dL_law_1448 (by decide) ⟨y, hy, e5, e68, a, rfl, eL⟩ (nx _ _ _ _ _ h2 hT2)
set_option maxRecDepth 20000 in
theorem law_bestRow (C : lwC l E Y A b L xs i k n) (H : Rl M M) (hT : okT M) (nx : lwNx l E Y A b i k n) : WP l E room_1 A Y k n 1451 [vQ b, vA 0, vA 68, vA 79, vI (jI i), u5, u6, u7, u8] [] M := by
  obtain ⟨hl, F, hN, -, -, -, -, hcs⟩ := id C
  refine x_aload_n F dL_law_1451 rfl ?_
  refine x_arg (j := 1) C (by decide) dL_law_1452 dL_law_1453 dL_law_1455 dL_law_1456 dL_law_1457 rfl rfl ?_
  refine x_aload_n F dL_law_1458 rfl ?_
  refine x_callH (As := [vA 0, vI (jI (sa xs (i + 1))), vA 79]) (st := []) F hN (h_L_bestRow hl H.1.1 (rg_sa _ _)) mlL_166 mhL_bestRow ⟨Nat.le_of_ble_eq_true rfl, Nat.le_of_ble_eq_true rfl⟩ hcs (Nat.le_of_ble_eq_true rfl) rfl dL_law_1459 (fun r1 M1 W => ?_)
  obtain ⟨x5, rfl⟩ := W_vI W
  obtain ⟨hm, tie⟩ := tie_bestRow H W
  have hT1 : okT M1 := okT_W W (fun Mc e h => e.2.1 h) hT
  refine x_istore F dL_law_1462 (by decide) ?_
  show WP l E room_1 A Y (k + 6) (n + 36) 1464 [vQ b, vA 0, vA 68, vA 79, vI (jI i), vI x5, u6, u7, u8] [] M1
  refine x_aload_n F dL_law_1464 rfl ?_
  refine x_arg (j := 1) C (by decide) dL_law_1465 dL_law_1466 dL_law_1468 dL_law_1469 dL_law_1470 rfl rfl ?_
  refine x_V1P F (m_X7_bestRow (l := l) (Rl_Z hm) (rg_sa _ _)) mlL_168 mvX7_bestRow rfl dL_law_1471 (by decide) rfl ⟨Nat.le_of_ble_eq_true rfl, Nat.le_of_ble_eq_true rfl⟩ hcs (Nat.le_of_ble_eq_true rfl) (fun r9 M2 P => ?_)
  obtain ⟨hO, h2⟩ := tie r9 M2 P
  have hT2 : okT M2 := okT_P P (fun e => (congrArg Prod.fst e.2.1).trans rfl) hT1
  obtain ⟨y, hy, e5, e68, a, rfl, eL⟩ := hO
  exact law_tail C dL_law_1474 dL_law_1476 dL_law_1477 dL_law_1480 dL_law_1482 dL_law_1487 dL_law_1489 dL_law_1492 dL_law_1493 dL_law_1494 dL_law_1495 dL_law_1497 dL_law_1498 dL_law_1499 dL_law_1504 (by decide) ⟨y, hy, e5, e68, a, rfl, eL⟩ (nx _ _ _ _ _ h2 hT2)
set_option maxRecDepth 20000 in
theorem law_ifReach (C : lwC l E Y A b L xs i k n) (H : Rl M M) (hT : okT M) (nx : lwNx l E Y A b i k n) : WP l E room_1 A Y k n 1507 [vQ b, vA 0, vA 68, vA 79, vI (jI i), u5, u6, u7, u8] [] M := by
  obtain ⟨hl, F, hN, -, -, -, -, hcs⟩ := id C
  refine x_aload_n F dL_law_1507 rfl ?_
  refine x_arg (j := 1) C (by decide) dL_law_1508 dL_law_1509 dL_law_1511 dL_law_1512 dL_law_1513 rfl rfl ?_
  refine x_aload_n F dL_law_1514 rfl ?_
  refine x_callH (As := [vA 0, vI (jI (sa xs (i + 1))), vA 79]) (st := []) F hN (h_L_ifReach hl H.1.1 (rg_sa _ _)) mlL_169 mhL_ifReach ⟨Nat.le_of_ble_eq_true rfl, Nat.le_of_ble_eq_true rfl⟩ hcs (Nat.le_of_ble_eq_true rfl) rfl dL_law_1515 (fun r1 M1 W => ?_)
  obtain ⟨x5, rfl⟩ := W_vI W
  obtain ⟨hm, tie⟩ := tie_ifReach H W
  have hT1 : okT M1 := okT_W W (fun Mc e h => e.2.1 h) hT
  refine x_istore F dL_law_1518 (by decide) ?_
  show WP l E room_1 A Y (k + 6) (n + 36) 1520 [vQ b, vA 0, vA 68, vA 79, vI (jI i), vI x5, u6, u7, u8] [] M1
  refine x_aload_n F dL_law_1520 rfl ?_
  refine x_arg (j := 1) C (by decide) dL_law_1521 dL_law_1522 dL_law_1524 dL_law_1525 dL_law_1526 rfl rfl ?_
  refine x_V1P F (m_X7_ifReach (l := l) (Rl_Z hm) (rg_sa _ _)) mlL_171 mvX7_ifReach rfl dL_law_1527 (by decide) rfl ⟨Nat.le_of_ble_eq_true rfl, Nat.le_of_ble_eq_true rfl⟩ hcs (Nat.le_of_ble_eq_true rfl) (fun r9 M2 P => ?_)
  obtain ⟨hO, h2⟩ := tie r9 M2 P
  have hT2 : okT M2 := okT_P P (fun e => by rw [e]; rfl) hT1
  obtain ⟨y, hy, e5, e68, a, rfl, eL⟩ := hO
  exact law_tail C dL_law_1530 dL_law_1532 dL_law_1533 dL_law_1536 dL_law_1538 dL_law_1543 dL_law_1545 dL_law_1548 dL_law_1549 dL_law_1550 dL_law_1551 dL_law_1553 dL_law_1554 dL_law_1555 dL_law_1560 (by decide) ⟨y, hy, e5, e68, a, rfl, eL⟩ (nx _ _ _ _ _ h2 hT2)
set_option maxRecDepth 20000 in
theorem law_oddShare (C : lwC l E Y A b L xs i k n) (H : Rl M M) (hT : okT M) (nx : lwNx l E Y A b i k n) : WP l E room_1 A Y k n 1563 [vQ b, vA 0, vA 68, vA 79, vI (jI i), u5, u6, u7, u8] [] M := by
  obtain ⟨hl, F, hN, -, -, -, -, hcs⟩ := id C
  refine x_wid (k' := k + 6) (n' := n + 36) (by omega) (by omega) ?_
  refine x_aload_n F dL_law_1563 rfl ?_
  refine x_V0 F (m_X6_oddShare (l := l) H.1.1) mlL_172 mvX6_oddShare rfl dL_law_1564 (by decide) rfl ⟨Nat.le_of_ble_eq_true rfl, Nat.le_of_ble_eq_true rfl⟩ hcs (Nat.le_of_ble_eq_true rfl) ?_
  refine x_dstore F dL_law_1567 (by decide) ?_
  show WP l E room_1 A Y (k + 6) (n + 36) 1569 [vQ b, vA 0, vA 68, vA 79, vI (jI i), vD (shD (oaI M 1) (sumI (szI M 1) 4)), vU, u7, u8] [] M
  refine x_aload_n F dL_law_1569 rfl ?_
  refine x_V0 F (m_X7_oddShare (l := l) (Rl_Z H)) mlL_176 mvX7_oddShare rfl dL_law_1570 (by decide) rfl ⟨Nat.le_of_ble_eq_true rfl, Nat.le_of_ble_eq_true rfl⟩ hcs (Nat.le_of_ble_eq_true rfl) ?_
  rw [← tie_share H]
  refine x_dstore F dL_law_1573 (by decide) ?_
  show WP l E room_1 A Y (k + 6) (n + 36) 1575 [vQ b, vA 0, vA 68, vA 79, vI (jI i), vD (shD (oaI M 1) (sumI (szI M 1) 4)), vU, vD (shD (oaI M 1) (sumI (szI M 1) 4)), vU] [] (t0 M)
  refine x_dload F dL_law_1575 rfl ?_
  refine x_dload F dL_law_1577 rfl ?_
  refine x_dcmp F dL_law_1579 ?_
  rw [shD_c (oaI_b (Rl_hS H)) (szs_b (Rl_hS H))]
  refine xj_if_eq (tgt := 1601) F dL_law_1580 (by decide) (by decide) (fun _ => ?_) (fun z => absurd rfl z)
  exact x_goto (tgt := 1618) F dL_law_1601 (by decide) (nx _ _ _ _ _ (Rl_look H (qX_rfl M) (lkT_rfl _)) (okT_e1 (M := M) rfl hT))
set_option maxRecDepth 20000 in
theorem law_digest (C : lwC l E Y A b L xs i k n) (H : Rl M M) (hT : okT M) (nx : lwNx l E Y A b i k n) : WP l E room_1 A Y k n 1604 [vQ b, vA 0, vA 68, vA 79, vI (jI i), u5, u6, u7, u8] [] M := by
  obtain ⟨hl, F, hN, -, -, -, -, hcs⟩ := id C
  refine x_wid (k' := k + 6) (n' := n + 36) (by omega) (by omega) ?_
  refine x_aload_n F dL_law_1604 rfl ?_
  refine x_V0P F (m_X6_digest (l := l) H.1.1 hT H.2.2.2.1) mlL_177 mvX6_digest rfl dL_law_1605 (by decide) rfl ⟨Nat.le_of_ble_eq_true rfl, Nat.le_of_ble_eq_true rfl⟩ hcs (Nat.le_of_ble_eq_true rfl) (fun r1 M1 W => ?_)
  obtain ⟨rfl, q⟩ := W
  have hm := Rl_m0 H (Mc := M1) (fun a ha => q.1 a (by omega))
  refine x_aload_n F dL_law_1608 rfl ?_
  refine x_V0P F (m_X7_digest (l := l) (Rl_Z hm) (Rl_hV hm) (Rl_W hm)) mlL_181 mvX7_digest rfl dL_law_1609 (by decide) rfl ⟨Nat.le_of_ble_eq_true rfl, Nat.le_of_ble_eq_true rfl⟩ hcs (Nat.le_of_ble_eq_true rfl) (fun r9 M2 P => ?_)
  obtain ⟨rfl, hd⟩ := P
  rw [← tie_digest (Rl_t0 hm)]
  refine x_lcmp F dL_law_1612 ?_
  rw [show lg_cmp (dgI M) (dgI M) = jI 0 by unfold lg_cmp; simp [Int64.lt_irrefl] <;> rfl]
  have lk := lkT_dR hd
  exact xj_if_eq (tgt := 1618) F dL_law_1613 (by decide) (by decide) (fun _ => nx _ _ _ _ _ (Rl_look H q lk) (okT_e1 (lk.2.2.2.1.trans rfl) (q.2.1 hT))) (fun z => absurd rfl z)
end LAWC
