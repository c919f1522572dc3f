/-! THE LAW, ROW BY ROW -/
theorem lg_eq (x : Int64) : lg_cmp x x = 0 := by
  unfold lg_cmp
  rw [if_neg (fun h => Int64.lt_irrefl h), if_pos rfl]
theorem lw_xx {X : (Nat → Int32) × Nat} {d i j pc n1 n2 n3 n4 n5 : Nat} {x1 x2 x3 : Value} {l S : List Value} {μ ν : pm_M} {r : pm_R} {y : Int32} (h1 : pm_code 361 pc = some (.aload_n 0, n1)) (h2 : pm_code 361 n1 = some (.iload 4, n2)) (h3 : pm_Fx X d 361 n3 (.retAddr 0 :: x1 :: x2 :: x3 :: .int (nI i) :: l) (.int y :: .int (nI i) :: .retAddr 0 :: S) μ r ν → pm_Fx X d 361 n2 (.retAddr 0 :: x1 :: x2 :: x3 :: .int (nI i) :: l) (.int (nI i) :: .retAddr 0 :: S) μ r ν) (hy : y = nI j) (h4 : pm_code 361 n3 = some (.iadd, n4)) (h5 : pm_code 361 n4 = some (.iaload, n5)) (hX : X.2 < 2147483648) (hi : i + j < X.2) (k : pm_Fx X d 361 n5 (.retAddr 0 :: x1 :: x2 :: x3 :: .int (nI i) :: l) (.int (X.1 (i + j)) :: S) μ r ν) : pm_Fx X d 361 pc (.retAddr 0 :: x1 :: x2 :: x3 :: .int (nI i) :: l) S μ r ν := by
  subst hy
  refine az0 h1 (il4 h2 (h3 (r_iadd h4 ?_)))
  rw [nI_add]
  refine r_iz h5 (by rw [nI_toInt (by omega)]; omega) (by rw [nI_toInt (by omega)]; omega) ?_
  rw [nI_clamp (by omega)]
  exact k
theorem lw_x {X : (Nat → Int32) × Nat} {d i j pc n1 n2 n3 n4 n5 : Nat} {c : Int} {x1 x2 x3 : Value} {l S : List Value} {μ ν : pm_M} {r : pm_R} (h1 : pm_code 361 pc = some (.aload_n 0, n1)) (h2 : pm_code 361 n1 = some (.iload 4, n2)) (h3 : pm_code 361 n2 = some (.iconst c, n3)) (hy : Int32.ofInt c = nI j) (h4 : pm_code 361 n3 = some (.iadd, n4)) (h5 : pm_code 361 n4 = some (.iaload, n5)) (hX : X.2 < 2147483648) (hi : i + j < X.2) (k : pm_Fx X d 361 n5 (.retAddr 0 :: x1 :: x2 :: x3 :: .int (nI i) :: l) (.int (X.1 (i + j)) :: S) μ r ν) : pm_Fx X d 361 pc (.retAddr 0 :: x1 :: x2 :: x3 :: .int (nI i) :: l) S μ r ν := lw_xx h1 h2 (fun q => r_ic h3 hy q) rfl h4 h5 hX hi k
theorem lw_b {X : (Nat → Int32) × Nat} {d i j pc n1 n2 n3 n4 n5 : Nat} {c : Int} {x1 x2 x3 : Value} {l S : List Value} {μ ν : pm_M} {r : pm_R} (h1 : pm_code 361 pc = some (.aload_n 0, n1)) (h2 : pm_code 361 n1 = some (.iload 4, n2)) (h3 : pm_code 361 n2 = some (.bipush c, n3)) (hy : (Int8.ofInt c).toInt32 = nI j) (h4 : pm_code 361 n3 = some (.iadd, n4)) (h5 : pm_code 361 n4 = some (.iaload, n5)) (hX : X.2 < 2147483648) (hi : i + j < X.2) (k : pm_Fx X d 361 n5 (.retAddr 0 :: x1 :: x2 :: x3 :: .int (nI i) :: l) (.int (X.1 (i + j)) :: S) μ r ν) : pm_Fx X d 361 pc (.retAddr 0 :: x1 :: x2 :: x3 :: .int (nI i) :: l) S μ r ν := lw_xx h1 h2 (fun q => r_bi h3 hy q) rfl h4 h5 hX hi k
theorem R361_0 {X : (Nat → Int32) × Nat} {d i : Nat} {I I1 I2 : Nat → Nat → Int32} {J J1 : Nat → Nat → Int64} {z5 z6 z7 : Value} {ν : pm_M} {P : Nat → Nat → Value} {e : Nat} {v : Int32} (hX : X.2 < 2147483648) (hi : i + 6 < X.2) (hc : pm_Fn X (d + 59) 161 1 [.ref 0, .int (X.1 (i + 1)), .int (X.1 (i + 2)), .int (X.1 (i + 3)), .int (X.1 (i + 4)), .int (X.1 (i + 5))] (I, J, P, pm_T0, e) (.inl (some (.int v))) (I1, J1, P, pm_T0, e)) (hm : pm_Fn X (d + 59) 219 1 [.ref 127, .int (X.1 (i + 1)), .int (X.1 (i + 2)), .int (X.1 (i + 3)), .int (X.1 (i + 4)), .int (X.1 (i + 5))] (I1, J1, P, pm_T0, e) (.inl (some (.int v))) (I2, J1, P, pm_T0, e)) (kk : pm_Fx X (d + 60) 361 2576 [.retAddr 0, .ref 0, .ref 127, .ref 157, .int (nI i), z5, z6, z7] [] (I2, J1, P, pm_T0, e) (.inl (some (.int 1))) ν) : pm_Fx X (d + 60) 361 220 [.retAddr 0, .ref 0, .ref 127, .ref 157, .int (nI i), z5, z6, z7] [] (I, J, P, pm_T0, e) (.inl (some (.int 1))) ν := by
  refine al1 c361_220 ?_
  refine lw_x (j := 1) c361_221 c361_222 c361_224 (by decide) c361_225 c361_226 hX (by omega) ?_
  refine lw_x (j := 2) c361_227 c361_228 c361_230 (by decide) c361_231 c361_232 hX (by omega) ?_
  refine lw_x (j := 3) c361_233 c361_234 c361_236 (by decide) c361_237 c361_238 hX (by omega) ?_
  refine lw_x (j := 4) c361_239 c361_240 c361_242 (by decide) c361_243 c361_244 hX (by omega) ?_
  refine lw_x (j := 5) c361_245 c361_246 c361_248 (by decide) c361_249 c361_250 hX (by omega) ?_
  refine cv6 q361_251 (v := .int v) (μ1 := (I1, J1, P, pm_T0, e)) hc rfl ?_
  refine al2 c361_254 ?_
  refine lw_x (j := 1) c361_255 c361_256 c361_258 (by decide) c361_259 c361_260 hX (by omega) ?_
  refine lw_x (j := 2) c361_261 c361_262 c361_264 (by decide) c361_265 c361_266 hX (by omega) ?_
  refine lw_x (j := 3) c361_267 c361_268 c361_270 (by decide) c361_271 c361_272 hX (by omega) ?_
  refine lw_x (j := 4) c361_273 c361_274 c361_276 (by decide) c361_277 c361_278 hX (by omega) ?_
  refine lw_x (j := 5) c361_279 c361_280 c361_282 (by decide) c361_283 c361_284 hX (by omega) ?_
  refine cv6 q361_285 (v := .int v) (μ1 := (I2, J1, P, pm_T0, e)) hm rfl ?_
  exact r_iceq (t := 2576) c361_288 rfl (fun _ => kk) (fun h => absurd rfl h)
theorem R361_1 {X : (Nat → Int32) × Nat} {d i : Nat} {I I1 I2 : Nat → Nat → Int32} {J J1 : Nat → Nat → Int64} {z5 z6 z7 : Value} {ν : pm_M} {P P1 : Nat → Nat → Value} {e e1 c : Nat} {b : Int32} (hX : X.2 < 2147483648) (hi : i + 6 < X.2) (hf : pm_Fn X (d + 59) 330 0 [.ref 0, .int (X.1 (i + 1)), .ref 157] (I, J, P, pm_T0, e) (.inl (some (.int (nI c)))) (I1, J1, P1, pm_T0, e1)) (hm : pm_Fn X (d + 59) 221 1 [.ref 127, .int (X.1 (i + 1))] (I1, J1, P1, pm_T0, e1) (.inl (some (.int b))) (I2, J1, P1, pm_T0, e1)) (ht : I2 127 0 = nI c) (hcc : c ≤ 2) (hb : c = 0 → J1 157 0 = b.toInt64) (kk : pm_Fx X (d + 60) 361 2576 [.retAddr 0, .ref 0, .ref 127, .ref 157, .int (nI i), .int (nI c), .int b, z7] [] (I2, J1, P1, pm_T0, e1) (.inl (some (.int 1))) ν) : pm_Fx X (d + 60) 361 293 [.retAddr 0, .ref 0, .ref 127, .ref 157, .int (nI i), z5, z6, z7] [] (I, J, P, pm_T0, e) (.inl (some (.int 1))) ν := by
  refine al1 c361_293 ?_
  refine lw_x (j := 1) c361_294 c361_295 c361_297 (by decide) c361_298 c361_299 hX (by omega) ?_
  refine al3 c361_300 ?_
  refine cv3 q361_301 (v := .int (nI c)) (μ1 := (I1, J1, P1, pm_T0, e1)) hf rfl ?_
  refine is5 c361_304 rfl ?_
  refine al2 c361_306 ?_
  refine lw_x (j := 1) c361_307 c361_308 c361_310 (by decide) c361_311 c361_312 hX (by omega) ?_
  refine cv2 q361_313 (v := .int b) (μ1 := (I2, J1, P1, pm_T0, e1)) hm rfl ?_
  refine is6 c361_316 rfl ?_
  refine al2 c361_318 ?_
  refine cv1 q361_319 (s214 rfl) rfl ?_
  refine il5 c361_322 ?_
  refine r_iceq (t := 329) c361_324 rfl (fun _ => ?_) (fun h => absurd ht h)
  refine il5 c361_329 ?_
  refine r_ifne (t := 346) c361_331 rfl (fun _ => r_go (t := 2576) c361_346 rfl kk) (fun h => ?_)
  have h0 := hb (by
    rcases Nat.lt_or_ge c 1 with y | y
    · omega
    · exact absurd h (by rw [show (0 : Int32) = nI 0 from rfl, zt_eq (by omega) (by omega)]; omega))
  refine al3 c361_334 ?_
  refine r_ic c361_335 kI0 ?_
  refine w_la c361_336 rfl (by decide) ?_
  refine il6 c361_337 ?_
  refine r_i2l c361_339 ?_
  refine r_lcmp c361_340 ?_
  exact r_ifeq (t := 346) c361_341 rfl (fun _ => r_go (t := 2576) c361_346 rfl kk) (fun h2 => absurd (by rw [show (0 : Int32).toNatClampNeg = 0 from rfl, h0]; exact lg_eq _) h2)
theorem R361_2 {X : (Nat → Int32) × Nat} {d i : Nat} {I I1 I2 : Nat → Nat → Int32} {J J1 : Nat → Nat → Int64} {z5 z6 z7 : Value} {ν : pm_M} {P P1 : Nat → Nat → Value} {e e1 c : Nat} {b : Int32} (hX : X.2 < 2147483648) (hi : i + 6 < X.2) (hf : pm_Fn X (d + 59) 331 0 [.ref 0, .int (X.1 (i + 1)), .int (X.1 (i + 2)), .ref 157] (I, J, P, pm_T0, e) (.inl (some (.int (nI c)))) (I1, J1, P1, pm_T0, e1)) (hm : pm_Fn X (d + 59) 240 1 [.ref 127, .int (X.1 (i + 1)), .int (X.1 (i + 2))] (I1, J1, P1, pm_T0, e1) (.inl (some (.int b))) (I2, J1, P1, pm_T0, e1)) (ht : I2 127 0 = nI c) (hcc : c ≤ 2) (hb : c = 0 → J1 157 0 = b.toInt64) (kk : pm_Fx X (d + 60) 361 2576 [.retAddr 0, .ref 0, .ref 127, .ref 157, .int (nI i), .int (nI c), .int b, z7] [] (I2, J1, P1, pm_T0, e1) (.inl (some (.int 1))) ν) : pm_Fx X (d + 60) 361 349 [.retAddr 0, .ref 0, .ref 127, .ref 157, .int (nI i), z5, z6, z7] [] (I, J, P, pm_T0, e) (.inl (some (.int 1))) ν := by
  refine al1 c361_349 ?_
  refine lw_x (j := 1) c361_350 c361_351 c361_353 (by decide) c361_354 c361_355 hX (by omega) ?_
  refine lw_x (j := 2) c361_356 c361_357 c361_359 (by decide) c361_360 c361_361 hX (by omega) ?_
  refine al3 c361_362 ?_
  refine cv4 q361_363 (v := .int (nI c)) (μ1 := (I1, J1, P1, pm_T0, e1)) hf rfl ?_
  refine is5 c361_366 rfl ?_
  refine al2 c361_368 ?_
  refine lw_x (j := 1) c361_369 c361_370 c361_372 (by decide) c361_373 c361_374 hX (by omega) ?_
  refine lw_x (j := 2) c361_375 c361_376 c361_378 (by decide) c361_379 c361_380 hX (by omega) ?_
  refine cv3 q361_381 (v := .int b) (μ1 := (I2, J1, P1, pm_T0, e1)) hm rfl ?_
  refine is6 c361_384 rfl ?_
  refine al2 c361_386 ?_
  refine cv1 q361_387 (s214 rfl) rfl ?_
  refine il5 c361_390 ?_
  refine r_iceq (t := 397) c361_392 rfl (fun _ => ?_) (fun h => absurd ht h)
  refine il5 c361_397 ?_
  refine r_ifne (t := 414) c361_399 rfl (fun _ => r_go (t := 2576) c361_414 rfl kk) (fun h => ?_)
  have h0 := hb (by
    rcases Nat.lt_or_ge c 1 with y | y
    · omega
    · exact absurd h (by rw [show (0 : Int32) = nI 0 from rfl, zt_eq (by omega) (by omega)]; omega))
  refine al3 c361_402 ?_
  refine r_ic c361_403 kI0 ?_
  refine w_la c361_404 rfl (by decide) ?_
  refine il6 c361_405 ?_
  refine r_i2l c361_407 ?_
  refine r_lcmp c361_408 ?_
  exact r_ifeq (t := 414) c361_409 rfl (fun _ => r_go (t := 2576) c361_414 rfl kk) (fun h2 => absurd (by rw [show (0 : Int32).toNatClampNeg = 0 from rfl, h0]; exact lg_eq _) h2)
theorem R361_3 {X : (Nat → Int32) × Nat} {d i : Nat} {I I1 I2 : Nat → Nat → Int32} {J J1 : Nat → Nat → Int64} {z5 z6 z7 : Value} {ν : pm_M} {P P1 : Nat → Nat → Value} {e e1 c : Nat} {b : Int32} (hX : X.2 < 2147483648) (hi : i + 6 < X.2) (hf : pm_Fn X (d + 59) 332 0 [.ref 0, .int (X.1 (i + 1)), .ref 157] (I, J, P, pm_T0, e) (.inl (some (.int (nI c)))) (I1, J1, P1, pm_T0, e1)) (hm : pm_Fn X (d + 59) 249 1 [.ref 127, .int (X.1 (i + 1))] (I1, J1, P1, pm_T0, e1) (.inl (some (.int b))) (I2, J1, P1, pm_T0, e1)) (ht : I2 127 0 = nI c) (hcc : c ≤ 2) (hb : c = 0 → J1 157 0 = b.toInt64) (kk : pm_Fx X (d + 60) 361 2576 [.retAddr 0, .ref 0, .ref 127, .ref 157, .int (nI i), .int (nI c), .int b, z7] [] (I2, J1, P1, pm_T0, e1) (.inl (some (.int 1))) ν) : pm_Fx X (d + 60) 361 417 [.retAddr 0, .ref 0, .ref 127, .ref 157, .int (nI i), z5, z6, z7] [] (I, J, P, pm_T0, e) (.inl (some (.int 1))) ν := by
  refine al1 c361_417 ?_
  refine lw_x (j := 1) c361_418 c361_419 c361_421 (by decide) c361_422 c361_423 hX (by omega) ?_
  refine al3 c361_424 ?_
  refine cv3 q361_425 (v := .int (nI c)) (μ1 := (I1, J1, P1, pm_T0, e1)) hf rfl ?_
  refine is5 c361_428 rfl ?_
  refine al2 c361_430 ?_
  refine lw_x (j := 1) c361_431 c361_432 c361_434 (by decide) c361_435 c361_436 hX (by omega) ?_
  refine cv2 q361_437 (v := .int b) (μ1 := (I2, J1, P1, pm_T0, e1)) hm rfl ?_
  refine is6 c361_440 rfl ?_
  refine al2 c361_442 ?_
  refine cv1 q361_443 (s214 rfl) rfl ?_
  refine il5 c361_446 ?_
  refine r_iceq (t := 453) c361_448 rfl (fun _ => ?_) (fun h => absurd ht h)
  refine il5 c361_453 ?_
  refine r_ifne (t := 470) c361_455 rfl (fun _ => r_go (t := 2576) c361_470 rfl kk) (fun h => ?_)
  have h0 := hb (by
    rcases Nat.lt_or_ge c 1 with y | y
    · omega
    · exact absurd h (by rw [show (0 : Int32) = nI 0 from rfl, zt_eq (by omega) (by omega)]; omega))
  refine al3 c361_458 ?_
  refine r_ic c361_459 kI0 ?_
  refine w_la c361_460 rfl (by decide) ?_
  refine il6 c361_461 ?_
  refine r_i2l c361_463 ?_
  refine r_lcmp c361_464 ?_
  exact r_ifeq (t := 470) c361_465 rfl (fun _ => r_go (t := 2576) c361_470 rfl kk) (fun h2 => absurd (by rw [show (0 : Int32).toNatClampNeg = 0 from rfl, h0]; exact lg_eq _) h2)
theorem R361_4 {X : (Nat → Int32) × Nat} {d i : Nat} {I I1 I2 : Nat → Nat → Int32} {J J1 : Nat → Nat → Int64} {z5 z6 z7 : Value} {ν : pm_M} {P P1 : Nat → Nat → Value} {e e1 c : Nat} {b : Int32} (hX : X.2 < 2147483648) (hi : i + 6 < X.2) (hf : pm_Fn X (d + 59) 333 0 [.ref 0, .int (X.1 (i + 1)), .ref 157] (I, J, P, pm_T0, e) (.inl (some (.int (nI c)))) (I1, J1, P1, pm_T0, e1)) (hm : pm_Fn X (d + 59) 273 1 [.ref 127, .int (X.1 (i + 1))] (I1, J1, P1, pm_T0, e1) (.inl (some (.int b))) (I2, J1, P1, pm_T0, e1)) (ht : I2 127 0 = nI c) (hcc : c ≤ 2) (hb : c = 0 → J1 157 0 = b.toInt64) (kk : pm_Fx X (d + 60) 361 2576 [.retAddr 0, .ref 0, .ref 127, .ref 157, .int (nI i), .int (nI c), .int b, z7] [] (I2, J1, P1, pm_T0, e1) (.inl (some (.int 1))) ν) : pm_Fx X (d + 60) 361 473 [.retAddr 0, .ref 0, .ref 127, .ref 157, .int (nI i), z5, z6, z7] [] (I, J, P, pm_T0, e) (.inl (some (.int 1))) ν := by
  refine al1 c361_473 ?_
  refine lw_x (j := 1) c361_474 c361_475 c361_477 (by decide) c361_478 c361_479 hX (by omega) ?_
  refine al3 c361_480 ?_
  refine cv3 q361_481 (v := .int (nI c)) (μ1 := (I1, J1, P1, pm_T0, e1)) hf rfl ?_
  refine is5 c361_484 rfl ?_
  refine al2 c361_486 ?_
  refine lw_x (j := 1) c361_487 c361_488 c361_490 (by decide) c361_491 c361_492 hX (by omega) ?_
  refine cv2 q361_493 (v := .int b) (μ1 := (I2, J1, P1, pm_T0, e1)) hm rfl ?_
  refine is6 c361_496 rfl ?_
  refine al2 c361_498 ?_
  refine cv1 q361_499 (s214 rfl) rfl ?_
  refine il5 c361_502 ?_
  refine r_iceq (t := 509) c361_504 rfl (fun _ => ?_) (fun h => absurd ht h)
  refine il5 c361_509 ?_
  refine r_ifne (t := 526) c361_511 rfl (fun _ => r_go (t := 2576) c361_526 rfl kk) (fun h => ?_)
  have h0 := hb (by
    rcases Nat.lt_or_ge c 1 with y | y
    · omega
    · exact absurd h (by rw [show (0 : Int32) = nI 0 from rfl, zt_eq (by omega) (by omega)]; omega))
  refine al3 c361_514 ?_
  refine r_ic c361_515 kI0 ?_
  refine w_la c361_516 rfl (by decide) ?_
  refine il6 c361_517 ?_
  refine r_i2l c361_519 ?_
  refine r_lcmp c361_520 ?_
  exact r_ifeq (t := 526) c361_521 rfl (fun _ => r_go (t := 2576) c361_526 rfl kk) (fun h2 => absurd (by rw [show (0 : Int32).toNatClampNeg = 0 from rfl, h0]; exact lg_eq _) h2)
theorem R361_5 {X : (Nat → Int32) × Nat} {d i : Nat} {I I1 I2 : Nat → Nat → Int32} {J J1 : Nat → Nat → Int64} {z5 z6 z7 : Value} {ν : pm_M} {P : Nat → Nat → Value} {e : Nat} {v : Int32} (hX : X.2 < 2147483648) (hi : i + 6 < X.2) (hc : pm_Fn X (d + 59) 162 1 [.ref 0] (I, J, P, pm_T0, e) (.inl (some (.int v))) (I1, J1, P, pm_T0, e)) (hm : pm_Fn X (d + 59) 220 1 [.ref 127] (I1, J1, P, pm_T0, e) (.inl (some (.int v))) (I2, J1, P, pm_T0, e)) (kk : pm_Fx X (d + 60) 361 2576 [.retAddr 0, .ref 0, .ref 127, .ref 157, .int (nI i), z5, z6, z7] [] (I2, J1, P, pm_T0, e) (.inl (some (.int 1))) ν) : pm_Fx X (d + 60) 361 529 [.retAddr 0, .ref 0, .ref 127, .ref 157, .int (nI i), z5, z6, z7] [] (I, J, P, pm_T0, e) (.inl (some (.int 1))) ν := by
  refine al1 c361_529 ?_
  refine cv1 q361_530 (v := .int v) (μ1 := (I1, J1, P, pm_T0, e)) hc rfl ?_
  refine al2 c361_533 ?_
  refine cv1 q361_534 (v := .int v) (μ1 := (I2, J1, P, pm_T0, e)) hm rfl ?_
  exact r_iceq (t := 2576) c361_537 rfl (fun _ => kk) (fun h => absurd rfl h)
theorem R361_6 {X : (Nat → Int32) × Nat} {d i : Nat} {I I1 I2 : Nat → Nat → Int32} {J J1 : Nat → Nat → Int64} {z5 z6 z7 : Value} {ν : pm_M} {P : Nat → Nat → Value} {e : Nat} {v : Int32} (hX : X.2 < 2147483648) (hi : i + 6 < X.2) (hc : pm_Fn X (d + 59) 163 1 [.ref 0] (I, J, P, pm_T0, e) (.inl (some (.int v))) (I1, J1, P, pm_T0, e)) (hm : pm_Fn X (d + 59) 274 1 [.ref 127] (I1, J1, P, pm_T0, e) (.inl (some (.int v))) (I2, J1, P, pm_T0, e)) (kk : pm_Fx X (d + 60) 361 2576 [.retAddr 0, .ref 0, .ref 127, .ref 157, .int (nI i), z5, z6, z7] [] (I2, J1, P, pm_T0, e) (.inl (some (.int 1))) ν) : pm_Fx X (d + 60) 361 542 [.retAddr 0, .ref 0, .ref 127, .ref 157, .int (nI i), z5, z6, z7] [] (I, J, P, pm_T0, e) (.inl (some (.int 1))) ν := by
  refine al1 c361_542 ?_
  refine cv1 q361_543 (v := .int v) (μ1 := (I1, J1, P, pm_T0, e)) hc rfl ?_
  refine al2 c361_546 ?_
  refine cv1 q361_547 (v := .int v) (μ1 := (I2, J1, P, pm_T0, e)) hm rfl ?_
  exact r_iceq (t := 2576) c361_550 rfl (fun _ => kk) (fun h => absurd rfl h)
theorem R361_7 {X : (Nat → Int32) × Nat} {d i : Nat} {I I1 I2 : Nat → Nat → Int32} {J J1 : Nat → Nat → Int64} {z5 z6 z7 : Value} {ν : pm_M} {P P1 : Nat → Nat → Value} {e e1 c : Nat} {b : Int32} (hX : X.2 < 2147483648) (hi : i + 6 < X.2) (hf : pm_Fn X (d + 59) 334 0 [.ref 0, .int (X.1 (i + 1)), .ref 157] (I, J, P, pm_T0, e) (.inl (some (.int (nI c)))) (I1, J1, P1, pm_T0, e1)) (hm : pm_Fn X (d + 59) 275 1 [.ref 127, .int (X.1 (i + 1))] (I1, J1, P1, pm_T0, e1) (.inl (some (.int b))) (I2, J1, P1, pm_T0, e1)) (ht : I2 127 0 = nI c) (hcc : c ≤ 2) (hb : c = 0 → J1 157 0 = b.toInt64) (kk : pm_Fx X (d + 60) 361 2576 [.retAddr 0, .ref 0, .ref 127, .ref 157, .int (nI i), .int (nI c), .int b, z7] [] (I2, J1, P1, pm_T0, e1) (.inl (some (.int 1))) ν) : pm_Fx X (d + 60) 361 555 [.retAddr 0, .ref 0, .ref 127, .ref 157, .int (nI i), z5, z6, z7] [] (I, J, P, pm_T0, e) (.inl (some (.int 1))) ν := by
  refine al1 c361_555 ?_
  refine lw_x (j := 1) c361_556 c361_557 c361_559 (by decide) c361_560 c361_561 hX (by omega) ?_
  refine al3 c361_562 ?_
  refine cv3 q361_563 (v := .int (nI c)) (μ1 := (I1, J1, P1, pm_T0, e1)) hf rfl ?_
  refine is5 c361_566 rfl ?_
  refine al2 c361_568 ?_
  refine lw_x (j := 1) c361_569 c361_570 c361_572 (by decide) c361_573 c361_574 hX (by omega) ?_
  refine cv2 q361_575 (v := .int b) (μ1 := (I2, J1, P1, pm_T0, e1)) hm rfl ?_
  refine is6 c361_578 rfl ?_
  refine al2 c361_580 ?_
  refine cv1 q361_581 (s214 rfl) rfl ?_
  refine il5 c361_584 ?_
  refine r_iceq (t := 591) c361_586 rfl (fun _ => ?_) (fun h => absurd ht h)
  refine il5 c361_591 ?_
  refine r_ifne (t := 608) c361_593 rfl (fun _ => r_go (t := 2576) c361_608 rfl kk) (fun h => ?_)
  have h0 := hb (by
    rcases Nat.lt_or_ge c 1 with y | y
    · omega
    · exact absurd h (by rw [show (0 : Int32) = nI 0 from rfl, zt_eq (by omega) (by omega)]; omega))
  refine al3 c361_596 ?_
  refine r_ic c361_597 kI0 ?_
  refine w_la c361_598 rfl (by decide) ?_
  refine il6 c361_599 ?_
  refine r_i2l c361_601 ?_
  refine r_lcmp c361_602 ?_
  exact r_ifeq (t := 608) c361_603 rfl (fun _ => r_go (t := 2576) c361_608 rfl kk) (fun h2 => absurd (by rw [show (0 : Int32).toNatClampNeg = 0 from rfl, h0]; exact lg_eq _) h2)
theorem R361_8 {X : (Nat → Int32) × Nat} {d i : Nat} {I I1 I2 : Nat → Nat → Int32} {J J1 : Nat → Nat → Int64} {z5 z6 z7 : Value} {ν : pm_M} {P P1 : Nat → Nat → Value} {e e1 c : Nat} {b : Int32} (hX : X.2 < 2147483648) (hi : i + 6 < X.2) (hf : pm_Fn X (d + 59) 335 0 [.ref 0, .int (X.1 (i + 1)), .int (X.1 (i + 2)), .ref 157] (I, J, P, pm_T0, e) (.inl (some (.int (nI c)))) (I1, J1, P1, pm_T0, e1)) (hm : pm_Fn X (d + 59) 276 1 [.ref 127, .int (X.1 (i + 1)), .int (X.1 (i + 2))] (I1, J1, P1, pm_T0, e1) (.inl (some (.int b))) (I2, J1, P1, pm_T0, e1)) (ht : I2 127 0 = nI c) (hcc : c ≤ 2) (hb : c = 0 → J1 157 0 = b.toInt64) (kk : pm_Fx X (d + 60) 361 2576 [.retAddr 0, .ref 0, .ref 127, .ref 157, .int (nI i), .int (nI c), .int b, z7] [] (I2, J1, P1, pm_T0, e1) (.inl (some (.int 1))) ν) : pm_Fx X (d + 60) 361 611 [.retAddr 0, .ref 0, .ref 127, .ref 157, .int (nI i), z5, z6, z7] [] (I, J, P, pm_T0, e) (.inl (some (.int 1))) ν := by
  refine al1 c361_611 ?_
  refine lw_x (j := 1) c361_612 c361_613 c361_615 (by decide) c361_616 c361_617 hX (by omega) ?_
  refine lw_x (j := 2) c361_618 c361_619 c361_621 (by decide) c361_622 c361_623 hX (by omega) ?_
  refine al3 c361_624 ?_
  refine cv4 q361_625 (v := .int (nI c)) (μ1 := (I1, J1, P1, pm_T0, e1)) hf rfl ?_
  refine is5 c361_628 rfl ?_
  refine al2 c361_630 ?_
  refine lw_x (j := 1) c361_631 c361_632 c361_634 (by decide) c361_635 c361_636 hX (by omega) ?_
  refine lw_x (j := 2) c361_637 c361_638 c361_640 (by decide) c361_641 c361_642 hX (by omega) ?_
  refine cv3 q361_643 (v := .int b) (μ1 := (I2, J1, P1, pm_T0, e1)) hm rfl ?_
  refine is6 c361_646 rfl ?_
  refine al2 c361_648 ?_
  refine cv1 q361_649 (s214 rfl) rfl ?_
  refine il5 c361_652 ?_
  refine r_iceq (t := 659) c361_654 rfl (fun _ => ?_) (fun h => absurd ht h)
  refine il5 c361_659 ?_
  refine r_ifne (t := 676) c361_661 rfl (fun _ => r_go (t := 2576) c361_676 rfl kk) (fun h => ?_)
  have h0 := hb (by
    rcases Nat.lt_or_ge c 1 with y | y
    · omega
    · exact absurd h (by rw [show (0 : Int32) = nI 0 from rfl, zt_eq (by omega) (by omega)]; omega))
  refine al3 c361_664 ?_
  refine r_ic c361_665 kI0 ?_
  refine w_la c361_666 rfl (by decide) ?_
  refine il6 c361_667 ?_
  refine r_i2l c361_669 ?_
  refine r_lcmp c361_670 ?_
  exact r_ifeq (t := 676) c361_671 rfl (fun _ => r_go (t := 2576) c361_676 rfl kk) (fun h2 => absurd (by rw [show (0 : Int32).toNatClampNeg = 0 from rfl, h0]; exact lg_eq _) h2)
theorem R361_9 {X : (Nat → Int32) × Nat} {d i : Nat} {I I1 I2 : Nat → Nat → Int32} {J J1 : Nat → Nat → Int64} {z5 z6 z7 : Value} {ν : pm_M} {P P1 : Nat → Nat → Value} {e e1 c : Nat} {b : Int32} (hX : X.2 < 2147483648) (hi : i + 6 < X.2) (hf : pm_Fn X (d + 59) 336 0 [.ref 0, .int (X.1 (i + 1)), .int (X.1 (i + 2)), .ref 157] (I, J, P, pm_T0, e) (.inl (some (.int (nI c)))) (I1, J1, P1, pm_T0, e1)) (hm : pm_Fn X (d + 59) 278 1 [.ref 127, .int (X.1 (i + 1)), .int (X.1 (i + 2))] (I1, J1, P1, pm_T0, e1) (.inl (some (.int b))) (I2, J1, P1, pm_T0, e1)) (ht : I2 127 0 = nI c) (hcc : c ≤ 2) (hb : c = 0 → J1 157 0 = b.toInt64) (kk : pm_Fx X (d + 60) 361 2576 [.retAddr 0, .ref 0, .ref 127, .ref 157, .int (nI i), .int (nI c), .int b, z7] [] (I2, J1, P1, pm_T0, e1) (.inl (some (.int 1))) ν) : pm_Fx X (d + 60) 361 679 [.retAddr 0, .ref 0, .ref 127, .ref 157, .int (nI i), z5, z6, z7] [] (I, J, P, pm_T0, e) (.inl (some (.int 1))) ν := by
  refine al1 c361_679 ?_
  refine lw_x (j := 1) c361_680 c361_681 c361_683 (by decide) c361_684 c361_685 hX (by omega) ?_
  refine lw_x (j := 2) c361_686 c361_687 c361_689 (by decide) c361_690 c361_691 hX (by omega) ?_
  refine al3 c361_692 ?_
  refine cv4 q361_693 (v := .int (nI c)) (μ1 := (I1, J1, P1, pm_T0, e1)) hf rfl ?_
  refine is5 c361_696 rfl ?_
  refine al2 c361_698 ?_
  refine lw_x (j := 1) c361_699 c361_700 c361_702 (by decide) c361_703 c361_704 hX (by omega) ?_
  refine lw_x (j := 2) c361_705 c361_706 c361_708 (by decide) c361_709 c361_710 hX (by omega) ?_
  refine cv3 q361_711 (v := .int b) (μ1 := (I2, J1, P1, pm_T0, e1)) hm rfl ?_
  refine is6 c361_714 rfl ?_
  refine al2 c361_716 ?_
  refine cv1 q361_717 (s214 rfl) rfl ?_
  refine il5 c361_720 ?_
  refine r_iceq (t := 727) c361_722 rfl (fun _ => ?_) (fun h => absurd ht h)
  refine il5 c361_727 ?_
  refine r_ifne (t := 744) c361_729 rfl (fun _ => r_go (t := 2576) c361_744 rfl kk) (fun h => ?_)
  have h0 := hb (by
    rcases Nat.lt_or_ge c 1 with y | y
    · omega
    · exact absurd h (by rw [show (0 : Int32) = nI 0 from rfl, zt_eq (by omega) (by omega)]; omega))
  refine al3 c361_732 ?_
  refine r_ic c361_733 kI0 ?_
  refine w_la c361_734 rfl (by decide) ?_
  refine il6 c361_735 ?_
  refine r_i2l c361_737 ?_
  refine r_lcmp c361_738 ?_
  exact r_ifeq (t := 744) c361_739 rfl (fun _ => r_go (t := 2576) c361_744 rfl kk) (fun h2 => absurd (by rw [show (0 : Int32).toNatClampNeg = 0 from rfl, h0]; exact lg_eq _) h2)
theorem R361_10 {X : (Nat → Int32) × Nat} {d i : Nat} {I I1 I2 : Nat → Nat → Int32} {J J1 : Nat → Nat → Int64} {z5 z6 z7 : Value} {ν : pm_M} {P P1 : Nat → Nat → Value} {e e1 c : Nat} {b : Int32} (hX : X.2 < 2147483648) (hi : i + 6 < X.2) (hf : pm_Fn X (d + 59) 337 0 [.ref 0, .int (X.1 (i + 1)), .int (X.1 (i + 2)), .ref 157] (I, J, P, pm_T0, e) (.inl (some (.int (nI c)))) (I1, J1, P1, pm_T0, e1)) (hm : pm_Fn X (d + 59) 280 1 [.ref 127, .int (X.1 (i + 1)), .int (X.1 (i + 2))] (I1, J1, P1, pm_T0, e1) (.inl (some (.int b))) (I2, J1, P1, pm_T0, e1)) (ht : I2 127 0 = nI c) (hcc : c ≤ 2) (hb : c = 0 → J1 157 0 = b.toInt64) (kk : pm_Fx X (d + 60) 361 2576 [.retAddr 0, .ref 0, .ref 127, .ref 157, .int (nI i), .int (nI c), .int b, z7] [] (I2, J1, P1, pm_T0, e1) (.inl (some (.int 1))) ν) : pm_Fx X (d + 60) 361 747 [.retAddr 0, .ref 0, .ref 127, .ref 157, .int (nI i), z5, z6, z7] [] (I, J, P, pm_T0, e) (.inl (some (.int 1))) ν := by
  refine al1 c361_747 ?_
  refine lw_x (j := 1) c361_748 c361_749 c361_751 (by decide) c361_752 c361_753 hX (by omega) ?_
  refine lw_x (j := 2) c361_754 c361_755 c361_757 (by decide) c361_758 c361_759 hX (by omega) ?_
  refine al3 c361_760 ?_
  refine cv4 q361_761 (v := .int (nI c)) (μ1 := (I1, J1, P1, pm_T0, e1)) hf rfl ?_
  refine is5 c361_764 rfl ?_
  refine al2 c361_766 ?_
  refine lw_x (j := 1) c361_767 c361_768 c361_770 (by decide) c361_771 c361_772 hX (by omega) ?_
  refine lw_x (j := 2) c361_773 c361_774 c361_776 (by decide) c361_777 c361_778 hX (by omega) ?_
  refine cv3 q361_779 (v := .int b) (μ1 := (I2, J1, P1, pm_T0, e1)) hm rfl ?_
  refine is6 c361_782 rfl ?_
  refine al2 c361_784 ?_
  refine cv1 q361_785 (s214 rfl) rfl ?_
  refine il5 c361_788 ?_
  refine r_iceq (t := 795) c361_790 rfl (fun _ => ?_) (fun h => absurd ht h)
  refine il5 c361_795 ?_
  refine r_ifne (t := 812) c361_797 rfl (fun _ => r_go (t := 2576) c361_812 rfl kk) (fun h => ?_)
  have h0 := hb (by
    rcases Nat.lt_or_ge c 1 with y | y
    · omega
    · exact absurd h (by rw [show (0 : Int32) = nI 0 from rfl, zt_eq (by omega) (by omega)]; omega))
  refine al3 c361_800 ?_
  refine r_ic c361_801 kI0 ?_
  refine w_la c361_802 rfl (by decide) ?_
  refine il6 c361_803 ?_
  refine r_i2l c361_805 ?_
  refine r_lcmp c361_806 ?_
  exact r_ifeq (t := 812) c361_807 rfl (fun _ => r_go (t := 2576) c361_812 rfl kk) (fun h2 => absurd (by rw [show (0 : Int32).toNatClampNeg = 0 from rfl, h0]; exact lg_eq _) h2)
theorem R361_11 {X : (Nat → Int32) × Nat} {d i : Nat} {I I1 I2 : Nat → Nat → Int32} {J J1 : Nat → Nat → Int64} {z5 z6 z7 : Value} {ν : pm_M} {P P1 : Nat → Nat → Value} {e e1 c : Nat} {b : Int32} (hX : X.2 < 2147483648) (hi : i + 6 < X.2) (hf : pm_Fn X (d + 59) 338 0 [.ref 0, .int (X.1 (i + 1)), .ref 157] (I, J, P, pm_T0, e) (.inl (some (.int (nI c)))) (I1, J1, P1, pm_T0, e1)) (hm : pm_Fn X (d + 59) 281 1 [.ref 127, .int (X.1 (i + 1))] (I1, J1, P1, pm_T0, e1) (.inl (some (.int b))) (I2, J1, P1, pm_T0, e1)) (ht : I2 127 0 = nI c) (hcc : c ≤ 2) (hb : c = 0 → J1 157 0 = b.toInt64) (kk : pm_Fx X (d + 60) 361 2576 [.retAddr 0, .ref 0, .ref 127, .ref 157, .int (nI i), .int (nI c), .int b, z7] [] (I2, J1, P1, pm_T0, e1) (.inl (some (.int 1))) ν) : pm_Fx X (d + 60) 361 815 [.retAddr 0, .ref 0, .ref 127, .ref 157, .int (nI i), z5, z6, z7] [] (I, J, P, pm_T0, e) (.inl (some (.int 1))) ν := by
  refine al1 c361_815 ?_
  refine lw_x (j := 1) c361_816 c361_817 c361_819 (by decide) c361_820 c361_821 hX (by omega) ?_
  refine al3 c361_822 ?_
  refine cv3 q361_823 (v := .int (nI c)) (μ1 := (I1, J1, P1, pm_T0, e1)) hf rfl ?_
  refine is5 c361_826 rfl ?_
  refine al2 c361_828 ?_
  refine lw_x (j := 1) c361_829 c361_830 c361_832 (by decide) c361_833 c361_834 hX (by omega) ?_
  refine cv2 q361_835 (v := .int b) (μ1 := (I2, J1, P1, pm_T0, e1)) hm rfl ?_
  refine is6 c361_838 rfl ?_
  refine al2 c361_840 ?_
  refine cv1 q361_841 (s214 rfl) rfl ?_
  refine il5 c361_844 ?_
  refine r_iceq (t := 851) c361_846 rfl (fun _ => ?_) (fun h => absurd ht h)
  refine il5 c361_851 ?_
  refine r_ifne (t := 868) c361_853 rfl (fun _ => r_go (t := 2576) c361_868 rfl kk) (fun h => ?_)
  have h0 := hb (by
    rcases Nat.lt_or_ge c 1 with y | y
    · omega
    · exact absurd h (by rw [show (0 : Int32) = nI 0 from rfl, zt_eq (by omega) (by omega)]; omega))
  refine al3 c361_856 ?_
  refine r_ic c361_857 kI0 ?_
  refine w_la c361_858 rfl (by decide) ?_
  refine il6 c361_859 ?_
  refine r_i2l c361_861 ?_
  refine r_lcmp c361_862 ?_
  exact r_ifeq (t := 868) c361_863 rfl (fun _ => r_go (t := 2576) c361_868 rfl kk) (fun h2 => absurd (by rw [show (0 : Int32).toNatClampNeg = 0 from rfl, h0]; exact lg_eq _) h2)
theorem R361_12 {X : (Nat → Int32) × Nat} {d i : Nat} {I I1 I2 : Nat → Nat → Int32} {J J1 : Nat → Nat → Int64} {z5 z6 z7 : Value} {ν : pm_M} {P P1 : Nat → Nat → Value} {e e1 c : Nat} {b : Int32} (hX : X.2 < 2147483648) (hi : i + 6 < X.2) (hf : pm_Fn X (d + 59) 339 0 [.ref 0, .int (X.1 (i + 1)), .int (X.1 (i + 2)), .int (X.1 (i + 3)), .int (X.1 (i + 4)), .int (X.1 (i + 5)), .int (X.1 (i + 6)), .ref 157] (I, J, P, pm_T0, e) (.inl (some (.int (nI c)))) (I1, J1, P1, pm_T0, e1)) (hm : pm_Fn X (d + 59) 282 1 [.ref 127, .int (X.1 (i + 1)), .int (X.1 (i + 2)), .int (X.1 (i + 3)), .int (X.1 (i + 4)), .int (X.1 (i + 5)), .int (X.1 (i + 6))] (I1, J1, P1, pm_T0, e1) (.inl (some (.int b))) (I2, J1, P1, pm_T0, e1)) (ht : I2 127 0 = nI c) (hcc : c ≤ 2) (hb : c = 0 → J1 157 0 = b.toInt64) (kk : pm_Fx X (d + 60) 361 2576 [.retAddr 0, .ref 0, .ref 127, .ref 157, .int (nI i), .int (nI c), .int b, z7] [] (I2, J1, P1, pm_T0, e1) (.inl (some (.int 1))) ν) : pm_Fx X (d + 60) 361 871 [.retAddr 0, .ref 0, .ref 127, .ref 157, .int (nI i), z5, z6, z7] [] (I, J, P, pm_T0, e) (.inl (some (.int 1))) ν := by
  refine al1 c361_871 ?_
  refine lw_x (j := 1) c361_872 c361_873 c361_875 (by decide) c361_876 c361_877 hX (by omega) ?_
  refine lw_x (j := 2) c361_878 c361_879 c361_881 (by decide) c361_882 c361_883 hX (by omega) ?_
  refine lw_x (j := 3) c361_884 c361_885 c361_887 (by decide) c361_888 c361_889 hX (by omega) ?_
  refine lw_x (j := 4) c361_890 c361_891 c361_893 (by decide) c361_894 c361_895 hX (by omega) ?_
  refine lw_x (j := 5) c361_896 c361_897 c361_899 (by decide) c361_900 c361_901 hX (by omega) ?_
  refine lw_b (j := 6) c361_902 c361_903 c361_905 (by decide) c361_907 c361_908 hX (by omega) ?_
  refine al3 c361_909 ?_
  refine cv8 q361_910 (v := .int (nI c)) (μ1 := (I1, J1, P1, pm_T0, e1)) hf rfl ?_
  refine is5 c361_913 rfl ?_
  refine al2 c361_915 ?_
  refine lw_x (j := 1) c361_916 c361_917 c361_919 (by decide) c361_920 c361_921 hX (by omega) ?_
  refine lw_x (j := 2) c361_922 c361_923 c361_925 (by decide) c361_926 c361_927 hX (by omega) ?_
  refine lw_x (j := 3) c361_928 c361_929 c361_931 (by decide) c361_932 c361_933 hX (by omega) ?_
  refine lw_x (j := 4) c361_934 c361_935 c361_937 (by decide) c361_938 c361_939 hX (by omega) ?_
  refine lw_x (j := 5) c361_940 c361_941 c361_943 (by decide) c361_944 c361_945 hX (by omega) ?_
  refine lw_b (j := 6) c361_946 c361_947 c361_949 (by decide) c361_951 c361_952 hX (by omega) ?_
  refine cv7 q361_953 (v := .int b) (μ1 := (I2, J1, P1, pm_T0, e1)) hm rfl ?_
  refine is6 c361_956 rfl ?_
  refine al2 c361_958 ?_
  refine cv1 q361_959 (s214 rfl) rfl ?_
  refine il5 c361_962 ?_
  refine r_iceq (t := 969) c361_964 rfl (fun _ => ?_) (fun h => absurd ht h)
  refine il5 c361_969 ?_
  refine r_ifne (t := 986) c361_971 rfl (fun _ => r_go (t := 2576) c361_986 rfl kk) (fun h => ?_)
  have h0 := hb (by
    rcases Nat.lt_or_ge c 1 with y | y
    · omega
    · exact absurd h (by rw [show (0 : Int32) = nI 0 from rfl, zt_eq (by omega) (by omega)]; omega))
  refine al3 c361_974 ?_
  refine r_ic c361_975 kI0 ?_
  refine w_la c361_976 rfl (by decide) ?_
  refine il6 c361_977 ?_
  refine r_i2l c361_979 ?_
  refine r_lcmp c361_980 ?_
  exact r_ifeq (t := 986) c361_981 rfl (fun _ => r_go (t := 2576) c361_986 rfl kk) (fun h2 => absurd (by rw [show (0 : Int32).toNatClampNeg = 0 from rfl, h0]; exact lg_eq _) h2)
theorem R361_13 {X : (Nat → Int32) × Nat} {d i : Nat} {I I1 I2 : Nat → Nat → Int32} {J J1 : Nat → Nat → Int64} {z5 z6 z7 : Value} {ν : pm_M} {P : Nat → Nat → Value} {e : Nat} {v : Int32} (hX : X.2 < 2147483648) (hi : i + 6 < X.2) (hc : pm_Fn X (d + 59) 165 1 [.ref 0] (I, J, P, pm_T0, e) (.inl (some (.int v))) (I1, J1, P, pm_T0, e)) (hm : pm_Fn X (d + 59) 283 1 [.ref 127] (I1, J1, P, pm_T0, e) (.inl (some (.int v))) (I2, J1, P, pm_T0, e)) (kk : pm_Fx X (d + 60) 361 2576 [.retAddr 0, .ref 0, .ref 127, .ref 157, .int (nI i), z5, z6, z7] [] (I2, J1, P, pm_T0, e) (.inl (some (.int 1))) ν) : pm_Fx X (d + 60) 361 989 [.retAddr 0, .ref 0, .ref 127, .ref 157, .int (nI i), z5, z6, z7] [] (I, J, P, pm_T0, e) (.inl (some (.int 1))) ν := by
  refine al1 c361_989 ?_
  refine cv1 q361_990 (v := .int v) (μ1 := (I1, J1, P, pm_T0, e)) hc rfl ?_
  refine al2 c361_993 ?_
  refine cv1 q361_994 (v := .int v) (μ1 := (I2, J1, P, pm_T0, e)) hm rfl ?_
  exact r_iceq (t := 2576) c361_997 rfl (fun _ => kk) (fun h => absurd rfl h)
theorem R361_14 {X : (Nat → Int32) × Nat} {d i : Nat} {I I1 I2 : Nat → Nat → Int32} {J J1 : Nat → Nat → Int64} {z5 z6 z7 : Value} {ν : pm_M} {P P1 : Nat → Nat → Value} {e e1 c : Nat} {b : Int32} (hX : X.2 < 2147483648) (hi : i + 6 < X.2) (hf : pm_Fn X (d + 59) 340 0 [.ref 0, .int (X.1 (i + 1)), .ref 157] (I, J, P, pm_T0, e) (.inl (some (.int (nI c)))) (I1, J1, P1, pm_T0, e1)) (hm : pm_Fn X (d + 59) 284 1 [.ref 127, .int (X.1 (i + 1))] (I1, J1, P1, pm_T0, e1) (.inl (some (.int b))) (I2, J1, P1, pm_T0, e1)) (ht : I2 127 0 = nI c) (hcc : c ≤ 2) (hb : c = 0 → J1 157 0 = b.toInt64) (kk : pm_Fx X (d + 60) 361 2576 [.retAddr 0, .ref 0, .ref 127, .ref 157, .int (nI i), .int (nI c), .int b, z7] [] (I2, J1, P1, pm_T0, e1) (.inl (some (.int 1))) ν) : pm_Fx X (d + 60) 361 1002 [.retAddr 0, .ref 0, .ref 127, .ref 157, .int (nI i), z5, z6, z7] [] (I, J, P, pm_T0, e) (.inl (some (.int 1))) ν := by
  refine al1 c361_1002 ?_
  refine lw_x (j := 1) c361_1003 c361_1004 c361_1006 (by decide) c361_1007 c361_1008 hX (by omega) ?_
  refine al3 c361_1009 ?_
  refine cv3 q361_1010 (v := .int (nI c)) (μ1 := (I1, J1, P1, pm_T0, e1)) hf rfl ?_
  refine is5 c361_1013 rfl ?_
  refine al2 c361_1015 ?_
  refine lw_x (j := 1) c361_1016 c361_1017 c361_1019 (by decide) c361_1020 c361_1021 hX (by omega) ?_
  refine cv2 q361_1022 (v := .int b) (μ1 := (I2, J1, P1, pm_T0, e1)) hm rfl ?_
  refine is6 c361_1025 rfl ?_
  refine al2 c361_1027 ?_
  refine cv1 q361_1028 (s214 rfl) rfl ?_
  refine il5 c361_1031 ?_
  refine r_iceq (t := 1038) c361_1033 rfl (fun _ => ?_) (fun h => absurd ht h)
  refine il5 c361_1038 ?_
  refine r_ifne (t := 1055) c361_1040 rfl (fun _ => r_go (t := 2576) c361_1055 rfl kk) (fun h => ?_)
  have h0 := hb (by
    rcases Nat.lt_or_ge c 1 with y | y
    · omega
    · exact absurd h (by rw [show (0 : Int32) = nI 0 from rfl, zt_eq (by omega) (by omega)]; omega))
  refine al3 c361_1043 ?_
  refine r_ic c361_1044 kI0 ?_
  refine w_la c361_1045 rfl (by decide) ?_
  refine il6 c361_1046 ?_
  refine r_i2l c361_1048 ?_
  refine r_lcmp c361_1049 ?_
  exact r_ifeq (t := 1055) c361_1050 rfl (fun _ => r_go (t := 2576) c361_1055 rfl kk) (fun h2 => absurd (by rw [show (0 : Int32).toNatClampNeg = 0 from rfl, h0]; exact lg_eq _) h2)
theorem R361_15 {X : (Nat → Int32) × Nat} {d i : Nat} {I I1 I2 : Nat → Nat → Int32} {J J1 : Nat → Nat → Int64} {z5 z6 z7 : Value} {ν : pm_M} {P P1 : Nat → Nat → Value} {e e1 c : Nat} {b : Int32} (hX : X.2 < 2147483648) (hi : i + 6 < X.2) (hf : pm_Fn X (d + 59) 341 0 [.ref 0, .int (X.1 (i + 1)), .ref 157] (I, J, P, pm_T0, e) (.inl (some (.int (nI c)))) (I1, J1, P1, pm_T0, e1)) (hm : pm_Fn X (d + 59) 286 1 [.ref 127, .int (X.1 (i + 1))] (I1, J1, P1, pm_T0, e1) (.inl (some (.int b))) (I2, J1, P1, pm_T0, e1)) (ht : I2 127 0 = nI c) (hcc : c ≤ 2) (hb : c = 0 → J1 157 0 = b.toInt64) (kk : pm_Fx X (d + 60) 361 2576 [.retAddr 0, .ref 0, .ref 127, .ref 157, .int (nI i), .int (nI c), .int b, z7] [] (I2, J1, P1, pm_T0, e1) (.inl (some (.int 1))) ν) : pm_Fx X (d + 60) 361 1058 [.retAddr 0, .ref 0, .ref 127, .ref 157, .int (nI i), z5, z6, z7] [] (I, J, P, pm_T0, e) (.inl (some (.int 1))) ν := by
  refine al1 c361_1058 ?_
  refine lw_x (j := 1) c361_1059 c361_1060 c361_1062 (by decide) c361_1063 c361_1064 hX (by omega) ?_
  refine al3 c361_1065 ?_
  refine cv3 q361_1066 (v := .int (nI c)) (μ1 := (I1, J1, P1, pm_T0, e1)) hf rfl ?_
  refine is5 c361_1069 rfl ?_
  refine al2 c361_1071 ?_
  refine lw_x (j := 1) c361_1072 c361_1073 c361_1075 (by decide) c361_1076 c361_1077 hX (by omega) ?_
  refine cv2 q361_1078 (v := .int b) (μ1 := (I2, J1, P1, pm_T0, e1)) hm rfl ?_
  refine is6 c361_1081 rfl ?_
  refine al2 c361_1083 ?_
  refine cv1 q361_1084 (s214 rfl) rfl ?_
  refine il5 c361_1087 ?_
  refine r_iceq (t := 1094) c361_1089 rfl (fun _ => ?_) (fun h => absurd ht h)
  refine il5 c361_1094 ?_
  refine r_ifne (t := 1111) c361_1096 rfl (fun _ => r_go (t := 2576) c361_1111 rfl kk) (fun h => ?_)
  have h0 := hb (by
    rcases Nat.lt_or_ge c 1 with y | y
    · omega
    · exact absurd h (by rw [show (0 : Int32) = nI 0 from rfl, zt_eq (by omega) (by omega)]; omega))
  refine al3 c361_1099 ?_
  refine r_ic c361_1100 kI0 ?_
  refine w_la c361_1101 rfl (by decide) ?_
  refine il6 c361_1102 ?_
  refine r_i2l c361_1104 ?_
  refine r_lcmp c361_1105 ?_
  exact r_ifeq (t := 1111) c361_1106 rfl (fun _ => r_go (t := 2576) c361_1111 rfl kk) (fun h2 => absurd (by rw [show (0 : Int32).toNatClampNeg = 0 from rfl, h0]; exact lg_eq _) h2)
theorem R361_16 {X : (Nat → Int32) × Nat} {d i : Nat} {I I1 I2 : Nat → Nat → Int32} {J J1 : Nat → Nat → Int64} {z5 z6 z7 : Value} {ν : pm_M} {P P1 : Nat → Nat → Value} {e e1 c : Nat} {b : Int32} (hX : X.2 < 2147483648) (hi : i + 6 < X.2) (hf : pm_Fn X (d + 59) 342 0 [.ref 0, .int (X.1 (i + 1)), .int (X.1 (i + 2)), .ref 157] (I, J, P, pm_T0, e) (.inl (some (.int (nI c)))) (I1, J1, P1, pm_T0, e1)) (hm : pm_Fn X (d + 59) 287 1 [.ref 127, .int (X.1 (i + 1)), .int (X.1 (i + 2))] (I1, J1, P1, pm_T0, e1) (.inl (some (.int b))) (I2, J1, P1, pm_T0, e1)) (ht : I2 127 0 = nI c) (hcc : c ≤ 2) (hb : c = 0 → J1 157 0 = b.toInt64) (kk : pm_Fx X (d + 60) 361 2576 [.retAddr 0, .ref 0, .ref 127, .ref 157, .int (nI i), .int (nI c), .int b, z7] [] (I2, J1, P1, pm_T0, e1) (.inl (some (.int 1))) ν) : pm_Fx X (d + 60) 361 1114 [.retAddr 0, .ref 0, .ref 127, .ref 157, .int (nI i), z5, z6, z7] [] (I, J, P, pm_T0, e) (.inl (some (.int 1))) ν := by
  refine al1 c361_1114 ?_
  refine lw_x (j := 1) c361_1115 c361_1116 c361_1118 (by decide) c361_1119 c361_1120 hX (by omega) ?_
  refine lw_x (j := 2) c361_1121 c361_1122 c361_1124 (by decide) c361_1125 c361_1126 hX (by omega) ?_
  refine al3 c361_1127 ?_
  refine cv4 q361_1128 (v := .int (nI c)) (μ1 := (I1, J1, P1, pm_T0, e1)) hf rfl ?_
  refine is5 c361_1131 rfl ?_
  refine al2 c361_1133 ?_
  refine lw_x (j := 1) c361_1134 c361_1135 c361_1137 (by decide) c361_1138 c361_1139 hX (by omega) ?_
  refine lw_x (j := 2) c361_1140 c361_1141 c361_1143 (by decide) c361_1144 c361_1145 hX (by omega) ?_
  refine cv3 q361_1146 (v := .int b) (μ1 := (I2, J1, P1, pm_T0, e1)) hm rfl ?_
  refine is6 c361_1149 rfl ?_
  refine al2 c361_1151 ?_
  refine cv1 q361_1152 (s214 rfl) rfl ?_
  refine il5 c361_1155 ?_
  refine r_iceq (t := 1162) c361_1157 rfl (fun _ => ?_) (fun h => absurd ht h)
  refine il5 c361_1162 ?_
  refine r_ifne (t := 1179) c361_1164 rfl (fun _ => r_go (t := 2576) c361_1179 rfl kk) (fun h => ?_)
  have h0 := hb (by
    rcases Nat.lt_or_ge c 1 with y | y
    · omega
    · exact absurd h (by rw [show (0 : Int32) = nI 0 from rfl, zt_eq (by omega) (by omega)]; omega))
  refine al3 c361_1167 ?_
  refine r_ic c361_1168 kI0 ?_
  refine w_la c361_1169 rfl (by decide) ?_
  refine il6 c361_1170 ?_
  refine r_i2l c361_1172 ?_
  refine r_lcmp c361_1173 ?_
  exact r_ifeq (t := 1179) c361_1174 rfl (fun _ => r_go (t := 2576) c361_1179 rfl kk) (fun h2 => absurd (by rw [show (0 : Int32).toNatClampNeg = 0 from rfl, h0]; exact lg_eq _) h2)
theorem R361_17 {X : (Nat → Int32) × Nat} {d i : Nat} {I I1 I2 : Nat → Nat → Int32} {J J1 : Nat → Nat → Int64} {z5 z6 z7 : Value} {ν : pm_M} {P P1 : Nat → Nat → Value} {e e1 c : Nat} {b : Int32} (hX : X.2 < 2147483648) (hi : i + 6 < X.2) (hf : pm_Fn X (d + 59) 343 0 [.ref 0, .int (X.1 (i + 1)), .int (X.1 (i + 2)), .ref 157] (I, J, P, pm_T0, e) (.inl (some (.int (nI c)))) (I1, J1, P1, pm_T0, e1)) (hm : pm_Fn X (d + 59) 288 1 [.ref 127, .int (X.1 (i + 1)), .int (X.1 (i + 2))] (I1, J1, P1, pm_T0, e1) (.inl (some (.int b))) (I2, J1, P1, pm_T0, e1)) (ht : I2 127 0 = nI c) (hcc : c ≤ 2) (hb : c = 0 → J1 157 0 = b.toInt64) (kk : pm_Fx X (d + 60) 361 2576 [.retAddr 0, .ref 0, .ref 127, .ref 157, .int (nI i), .int (nI c), .int b, z7] [] (I2, J1, P1, pm_T0, e1) (.inl (some (.int 1))) ν) : pm_Fx X (d + 60) 361 1182 [.retAddr 0, .ref 0, .ref 127, .ref 157, .int (nI i), z5, z6, z7] [] (I, J, P, pm_T0, e) (.inl (some (.int 1))) ν := by
  refine al1 c361_1182 ?_
  refine lw_x (j := 1) c361_1183 c361_1184 c361_1186 (by decide) c361_1187 c361_1188 hX (by omega) ?_
  refine lw_x (j := 2) c361_1189 c361_1190 c361_1192 (by decide) c361_1193 c361_1194 hX (by omega) ?_
  refine al3 c361_1195 ?_
  refine cv4 q361_1196 (v := .int (nI c)) (μ1 := (I1, J1, P1, pm_T0, e1)) hf rfl ?_
  refine is5 c361_1199 rfl ?_
  refine al2 c361_1201 ?_
  refine lw_x (j := 1) c361_1202 c361_1203 c361_1205 (by decide) c361_1206 c361_1207 hX (by omega) ?_
  refine lw_x (j := 2) c361_1208 c361_1209 c361_1211 (by decide) c361_1212 c361_1213 hX (by omega) ?_
  refine cv3 q361_1214 (v := .int b) (μ1 := (I2, J1, P1, pm_T0, e1)) hm rfl ?_
  refine is6 c361_1217 rfl ?_
  refine al2 c361_1219 ?_
  refine cv1 q361_1220 (s214 rfl) rfl ?_
  refine il5 c361_1223 ?_
  refine r_iceq (t := 1230) c361_1225 rfl (fun _ => ?_) (fun h => absurd ht h)
  refine il5 c361_1230 ?_
  refine r_ifne (t := 1247) c361_1232 rfl (fun _ => r_go (t := 2576) c361_1247 rfl kk) (fun h => ?_)
  have h0 := hb (by
    rcases Nat.lt_or_ge c 1 with y | y
    · omega
    · exact absurd h (by rw [show (0 : Int32) = nI 0 from rfl, zt_eq (by omega) (by omega)]; omega))
  refine al3 c361_1235 ?_
  refine r_ic c361_1236 kI0 ?_
  refine w_la c361_1237 rfl (by decide) ?_
  refine il6 c361_1238 ?_
  refine r_i2l c361_1240 ?_
  refine r_lcmp c361_1241 ?_
  exact r_ifeq (t := 1247) c361_1242 rfl (fun _ => r_go (t := 2576) c361_1247 rfl kk) (fun h2 => absurd (by rw [show (0 : Int32).toNatClampNeg = 0 from rfl, h0]; exact lg_eq _) h2)
theorem R361_18 {X : (Nat → Int32) × Nat} {d i : Nat} {I I1 I2 : Nat → Nat → Int32} {J J1 : Nat → Nat → Int64} {z5 z6 z7 : Value} {ν : pm_M} {P P1 : Nat → Nat → Value} {e e1 c : Nat} {b : Int32} (hX : X.2 < 2147483648) (hi : i + 6 < X.2) (hf : pm_Fn X (d + 59) 344 0 [.ref 0, .int (X.1 (i + 1)), .ref 157] (I, J, P, pm_T0, e) (.inl (some (.int (nI c)))) (I1, J1, P1, pm_T0, e1)) (hm : pm_Fn X (d + 59) 290 1 [.ref 127, .int (X.1 (i + 1))] (I1, J1, P1, pm_T0, e1) (.inl (some (.int b))) (I2, J1, P1, pm_T0, e1)) (ht : I2 127 0 = nI c) (hcc : c ≤ 2) (hb : c = 0 → J1 157 0 = b.toInt64) (kk : pm_Fx X (d + 60) 361 2576 [.retAddr 0, .ref 0, .ref 127, .ref 157, .int (nI i), .int (nI c), .int b, z7] [] (I2, J1, P1, pm_T0, e1) (.inl (some (.int 1))) ν) : pm_Fx X (d + 60) 361 1250 [.retAddr 0, .ref 0, .ref 127, .ref 157, .int (nI i), z5, z6, z7] [] (I, J, P, pm_T0, e) (.inl (some (.int 1))) ν := by
  refine al1 c361_1250 ?_
  refine lw_x (j := 1) c361_1251 c361_1252 c361_1254 (by decide) c361_1255 c361_1256 hX (by omega) ?_
  refine al3 c361_1257 ?_
  refine cv3 q361_1258 (v := .int (nI c)) (μ1 := (I1, J1, P1, pm_T0, e1)) hf rfl ?_
  refine is5 c361_1261 rfl ?_
  refine al2 c361_1263 ?_
  refine lw_x (j := 1) c361_1264 c361_1265 c361_1267 (by decide) c361_1268 c361_1269 hX (by omega) ?_
  refine cv2 q361_1270 (v := .int b) (μ1 := (I2, J1, P1, pm_T0, e1)) hm rfl ?_
  refine is6 c361_1273 rfl ?_
  refine al2 c361_1275 ?_
  refine cv1 q361_1276 (s214 rfl) rfl ?_
  refine il5 c361_1279 ?_
  refine r_iceq (t := 1286) c361_1281 rfl (fun _ => ?_) (fun h => absurd ht h)
  refine il5 c361_1286 ?_
  refine r_ifne (t := 1303) c361_1288 rfl (fun _ => r_go (t := 2576) c361_1303 rfl kk) (fun h => ?_)
  have h0 := hb (by
    rcases Nat.lt_or_ge c 1 with y | y
    · omega
    · exact absurd h (by rw [show (0 : Int32) = nI 0 from rfl, zt_eq (by omega) (by omega)]; omega))
  refine al3 c361_1291 ?_
  refine r_ic c361_1292 kI0 ?_
  refine w_la c361_1293 rfl (by decide) ?_
  refine il6 c361_1294 ?_
  refine r_i2l c361_1296 ?_
  refine r_lcmp c361_1297 ?_
  exact r_ifeq (t := 1303) c361_1298 rfl (fun _ => r_go (t := 2576) c361_1303 rfl kk) (fun h2 => absurd (by rw [show (0 : Int32).toNatClampNeg = 0 from rfl, h0]; exact lg_eq _) h2)
theorem R361_19 {X : (Nat → Int32) × Nat} {d i : Nat} {I I1 I2 : Nat → Nat → Int32} {J J1 : Nat → Nat → Int64} {z5 z6 z7 : Value} {ν : pm_M} {P P1 : Nat → Nat → Value} {e e1 c : Nat} {b : Int32} (hX : X.2 < 2147483648) (hi : i + 6 < X.2) (hf : pm_Fn X (d + 59) 345 0 [.ref 0, .int (X.1 (i + 1)), .ref 157] (I, J, P, pm_T0, e) (.inl (some (.int (nI c)))) (I1, J1, P1, pm_T0, e1)) (hm : pm_Fn X (d + 59) 294 1 [.ref 127, .int (X.1 (i + 1))] (I1, J1, P1, pm_T0, e1) (.inl (some (.int b))) (I2, J1, P1, pm_T0, e1)) (ht : I2 127 0 = nI c) (hcc : c ≤ 2) (hb : c = 0 → J1 157 0 = b.toInt64) (kk : pm_Fx X (d + 60) 361 2576 [.retAddr 0, .ref 0, .ref 127, .ref 157, .int (nI i), .int (nI c), .int b, z7] [] (I2, J1, P1, pm_T0, e1) (.inl (some (.int 1))) ν) : pm_Fx X (d + 60) 361 1306 [.retAddr 0, .ref 0, .ref 127, .ref 157, .int (nI i), z5, z6, z7] [] (I, J, P, pm_T0, e) (.inl (some (.int 1))) ν := by
  refine al1 c361_1306 ?_
  refine lw_x (j := 1) c361_1307 c361_1308 c361_1310 (by decide) c361_1311 c361_1312 hX (by omega) ?_
  refine al3 c361_1313 ?_
  refine cv3 q361_1314 (v := .int (nI c)) (μ1 := (I1, J1, P1, pm_T0, e1)) hf rfl ?_
  refine is5 c361_1317 rfl ?_
  refine al2 c361_1319 ?_
  refine lw_x (j := 1) c361_1320 c361_1321 c361_1323 (by decide) c361_1324 c361_1325 hX (by omega) ?_
  refine cv2 q361_1326 (v := .int b) (μ1 := (I2, J1, P1, pm_T0, e1)) hm rfl ?_
  refine is6 c361_1329 rfl ?_
  refine al2 c361_1331 ?_
  refine cv1 q361_1332 (s214 rfl) rfl ?_
  refine il5 c361_1335 ?_
  refine r_iceq (t := 1342) c361_1337 rfl (fun _ => ?_) (fun h => absurd ht h)
  refine il5 c361_1342 ?_
  refine r_ifne (t := 1359) c361_1344 rfl (fun _ => r_go (t := 2576) c361_1359 rfl kk) (fun h => ?_)
  have h0 := hb (by
    rcases Nat.lt_or_ge c 1 with y | y
    · omega
    · exact absurd h (by rw [show (0 : Int32) = nI 0 from rfl, zt_eq (by omega) (by omega)]; omega))
  refine al3 c361_1347 ?_
  refine r_ic c361_1348 kI0 ?_
  refine w_la c361_1349 rfl (by decide) ?_
  refine il6 c361_1350 ?_
  refine r_i2l c361_1352 ?_
  refine r_lcmp c361_1353 ?_
  exact r_ifeq (t := 1359) c361_1354 rfl (fun _ => r_go (t := 2576) c361_1359 rfl kk) (fun h2 => absurd (by rw [show (0 : Int32).toNatClampNeg = 0 from rfl, h0]; exact lg_eq _) h2)
