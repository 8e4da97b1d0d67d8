/-! THE LAW'S BODY -/
/-- the script: L ints xs at the cell b, which nobody writes -/
def zScr (C : zC) (b L : Nat) (xs : Nat → Int32) : Prop := va_X b L xs (zcs C) (zcs C).heap ∧ b < (zcs C).heap.size ∧ ¬ zcA' C b ∧ L ≤ 3072
theorem znplus (a b : Nat) : nI a + nI b = nI (a + b) := (Int32.ofNat_add a b).symm
section ZLAW
variable {g : zG} {C : zC} {dd : Nat} {cc : ByteArray} {own : String} {pc : Nat} {lv : List (Option Value)} {st : List Value} {σ : zSto} {b L : Nat} {xs : Nat → Int32}
theorem za_sld {i : Nat} (hX : zScr C b L xs) (hd : decode cc pc = .ok (.iaload, 1)) (hi : i < L) (k : zAW g C dd cc own (pc + 1) lv (.int (xs i) :: st) σ) : zAW g C dd cc own pc lv (.int (nI i) :: .ref b :: st) σ := by
  obtain ⟨p, l, e, R, s, m, args, below, meth, c, nL, A, cells, slots, Q⟩ := C
  obtain ⟨hX, hbl, hbA, hL⟩ := hX
  intro ok H locs ls hP hS hLH
  have hc : (nI i).toNatClampNeg = i := nI_clamp (by omega)
  refine va_sld ok.1 ok.2.1 hX hbl hbA hS (vp_in_nI hi (by omega)) hd ?_
  rw [hc]
  exact k ok H locs ls hP hS hLH
theorem za_slen (hX : zScr C b L xs) (hd : decode cc pc = .ok (.arraylength, 1)) (k : zAW g C dd cc own (pc + 1) lv (.int (nI L) :: st) σ) : zAW g C dd cc own pc lv (.ref b :: st) σ := by
  obtain ⟨p, l, e, R, s, m, args, below, meth, c, nL, A, cells, slots, Q⟩ := C
  obtain ⟨hX, hbl, hbA, hL⟩ := hX
  intro ok H locs ls hP hS hLH
  exact va_slen ok.1 ok.2.1 hX hbl hbA hS hd (k ok H locs ls hP hS hLH)
abbrev zlvL (g : zG) (b i : Nat) : List (Option Value) := [some (.ref b), some (.ref (zad g 0)), some (.ref (zad g 34)), some (.int (nI i))]
/-- script[i + k] comes onto the stack -/
theorem za_arg {i : Nat} {n : Int} (k : Nat) (hX : zScr C b L xs) (h0 : decode cc pc = .ok (.aload_n 0, 1)) (h1 : decode cc (pc + 1) = .ok (.iload_n 3, 1)) (h2 : decode cc (pc + 2) = .ok (.iconst n, 1)) (h3 : decode cc (pc + 3) = .ok (.iadd, 1)) (h4 : decode cc (pc + 4) = .ok (.iaload, 1)) (hn : Int32.ofInt n = nI k) (hi : i + k < L) (kk : zAW g C dd cc own (pc + 5) (zlvL g b i) (.int (xs (i + k)) :: st) σ) : zAW g C dd cc own pc (zlvL g b i) st σ := by
  refine za_aload_n h0 rfl ?_
  refine za_iload_n h1 rfl ?_
  refine za_iconst (nI k) h2 hn ?_
  refine za_iadd h3 ?_
  rw [znplus]
  exact za_sld hX h4 hi kk
theorem zand63 (x : Int32) : ∃ k, k < 64 ∧ x &&& nI 63 = nI k := by
  refine ⟨(x &&& nI 63).toBitVec.toNat, ?_, ?_⟩
  · have e : (x &&& nI 63).toBitVec = x.toBitVec &&& (63#32) := rfl
    rw [e, BitVec.toNat_and]
    have h := Nat.and_le_right (n := x.toBitVec.toNat) (m := (63#32 : BitVec 32).toNat)
    have h2 : (63#32 : BitVec 32).toNat = 63 := by decide
    omega
  · apply Int32.toBitVec_inj.mp
    show _ = BitVec.ofNat 32 _
    rw [BitVec.ofNat_toNat, BitVec.setWidth_eq]
end ZLAW
theorem lg_cmp_self (r : Int64) : lg_cmp r r = 0 := by
  unfold lg_cmp
  simp
section ZBLK
variable {g : zG} {C : zC} {σ : zSto} {b L i : Nat} {xs : Nat → Int32}

set_option maxHeartbeats 1000000 in
theorem lb_lies (hX : zScr C b L xs) (hi : i + 5 < L) (h : zRel σ) (k : ∀ S, zRel S → zAW g C 9 cL_law RL 1301 (zlvL g b i) [] S) : zAW g C 9 cL_law RL 192 (zlvL g b i) [] σ := by
  obtain ⟨r, E, c1, k1⟩ := law_lies (g := g) h (xs (i + 1)) (xs (i + 2)) (xs (i + 3))
  refine za_aload_n dL_law_192 rfl ?_
  refine za_arg 1 hX dL_law_193 dL_law_194 dL_law_195 dL_law_196 dL_law_197 (by decide) (by omega) ?_
  refine za_arg 2 hX dL_law_198 dL_law_199 dL_law_200 dL_law_201 dL_law_202 (by decide) (by omega) ?_
  refine za_arg 3 hX dL_law_203 dL_law_204 dL_law_205 dL_law_206 dL_law_207 (by decide) (by omega) ?_
  refine za_callV dL_law_208 zm_L_13 zw_X5_lies zv_X5_lies c1 (by decide) rfl rfl rfl rfl (by decide) rfl (fun r1 s1 e1 => ?_)
  obtain ⟨rfl, E2, c2, k2⟩ := k1 r1 s1 e1
  refine za_aload_n dL_law_211 rfl ?_
  refine za_arg 1 hX dL_law_212 dL_law_213 dL_law_214 dL_law_215 dL_law_216 (by decide) (by omega) ?_
  refine za_arg 2 hX dL_law_217 dL_law_218 dL_law_219 dL_law_220 dL_law_221 (by decide) (by omega) ?_
  refine za_arg 3 hX dL_law_222 dL_law_223 dL_law_224 dL_law_225 dL_law_226 (by decide) (by omega) ?_
  refine za_callV dL_law_227 zm_L_17 zw_X6_lies zv_X6_lies c2 (by decide) rfl rfl rfl rfl (Nat.le_of_ble_eq_true rfl) rfl (fun r2 s2 e2 => ?_)
  obtain ⟨rfl, h2⟩ := k2 r2 s2 e2
  exact za_icmp_eq 1301 dL_law_230 (by decide) (fun _ => k s2 h2) (fun z => absurd rfl z)
set_option maxHeartbeats 1000000 in
theorem lb_basin (hX : zScr C b L xs) (hi : i + 5 < L) (h : zRel σ) (k : ∀ S, zRel S → zAW g C 9 cL_law RL 1301 (zlvL g b i) [] S) : zAW g C 9 cL_law RL 235 (zlvL g b i) [] σ := by
  obtain ⟨r, E, c1, k1⟩ := law_basin (g := g) h (xs (i + 1)) (xs (i + 2))
  refine za_aload_n dL_law_235 rfl ?_
  refine za_arg 1 hX dL_law_236 dL_law_237 dL_law_238 dL_law_239 dL_law_240 (by decide) (by omega) ?_
  refine za_arg 2 hX dL_law_241 dL_law_242 dL_law_243 dL_law_244 dL_law_245 (by decide) (by omega) ?_
  refine za_callV dL_law_246 zm_L_18 zw_X5_basin zv_X5_basin c1 (by decide) rfl rfl rfl rfl (by decide) rfl (fun r1 s1 e1 => ?_)
  obtain ⟨rfl, E2, c2, k2⟩ := k1 r1 s1 e1
  refine za_aload_n dL_law_249 rfl ?_
  refine za_arg 1 hX dL_law_250 dL_law_251 dL_law_252 dL_law_253 dL_law_254 (by decide) (by omega) ?_
  refine za_arg 2 hX dL_law_255 dL_law_256 dL_law_257 dL_law_258 dL_law_259 (by decide) (by omega) ?_
  refine za_callV dL_law_260 zm_L_22 zw_X6_basin zv_X6_basin c2 (by decide) rfl rfl rfl rfl (Nat.le_of_ble_eq_true rfl) rfl (fun r2 s2 e2 => ?_)
  obtain ⟨rfl, h2⟩ := k2 r2 s2 e2
  exact za_icmp_eq 1301 dL_law_263 (by decide) (fun _ => k s2 h2) (fun z => absurd rfl z)
set_option maxHeartbeats 1000000 in
theorem lb_bribe (hX : zScr C b L xs) (hi : i + 5 < L) (h : zRel σ) (k : ∀ S, zRel S → zAW g C 9 cL_law RL 1301 (zlvL g b i) [] S) : zAW g C 9 cL_law RL 268 (zlvL g b i) [] σ := by
  obtain ⟨r, E, c1, k1⟩ := law_bribe (g := g) h (xs (i + 1))
  refine za_aload_n dL_law_268 rfl ?_
  refine za_arg 1 hX dL_law_269 dL_law_270 dL_law_271 dL_law_272 dL_law_273 (by decide) (by omega) ?_
  refine za_callV dL_law_274 zm_L_23 zw_X5_bribe zv_X5_bribe c1 (by decide) rfl rfl rfl rfl (by decide) rfl (fun r1 s1 e1 => ?_)
  obtain ⟨rfl, E2, c2, k2⟩ := k1 r1 s1 e1
  refine za_aload_n dL_law_277 rfl ?_
  refine za_arg 1 hX dL_law_278 dL_law_279 dL_law_280 dL_law_281 dL_law_282 (by decide) (by omega) ?_
  refine za_callV dL_law_283 zm_L_27 zw_X6_bribe zv_X6_bribe c2 (by decide) rfl rfl rfl rfl (Nat.le_of_ble_eq_true rfl) rfl (fun r2 s2 e2 => ?_)
  obtain ⟨rfl, h2⟩ := k2 r2 s2 e2
  exact za_icmp_eq 1301 dL_law_286 (by decide) (fun _ => k s2 h2) (fun z => absurd rfl z)
set_option maxHeartbeats 1000000 in
theorem lb_held (hX : zScr C b L xs) (hi : i + 5 < L) (h : zRel σ) (k : ∀ S, zRel S → zAW g C 9 cL_law RL 1301 (zlvL g b i) [] S) : zAW g C 9 cL_law RL 291 (zlvL g b i) [] σ := by
  obtain ⟨r, E, c1, k1⟩ := law_held (g := g) h (xs (i + 1))
  refine za_aload_n dL_law_291 rfl ?_
  refine za_arg 1 hX dL_law_292 dL_law_293 dL_law_294 dL_law_295 dL_law_296 (by decide) (by omega) ?_
  refine za_callV dL_law_297 zm_L_28 zw_X5_held zv_X5_held c1 (by decide) rfl rfl rfl rfl (by decide) rfl (fun r1 s1 e1 => ?_)
  obtain ⟨rfl, E2, c2, k2⟩ := k1 r1 s1 e1
  refine za_aload_n dL_law_300 rfl ?_
  refine za_arg 1 hX dL_law_301 dL_law_302 dL_law_303 dL_law_304 dL_law_305 (by decide) (by omega) ?_
  refine za_callV dL_law_306 zm_L_31 zw_X6_held zv_X6_held c2 (by decide) rfl rfl rfl rfl (Nat.le_of_ble_eq_true rfl) rfl (fun r2 s2 e2 => ?_)
  obtain ⟨rfl, h2⟩ := k2 r2 s2 e2
  exact za_icmp_eq 1301 dL_law_309 (by decide) (fun _ => k s2 h2) (fun z => absurd rfl z)
set_option maxHeartbeats 1000000 in
theorem lb_now (hX : zScr C b L xs) (hi : i + 5 < L) (h : zRel σ) (k : ∀ S, zRel S → zAW g C 9 cL_law RL 1301 (zlvL g b i) [] S) : zAW g C 9 cL_law RL 314 (zlvL g b i) [] σ := by
  obtain ⟨r, E, c1, k1⟩ := law_now (g := g) h (xs (i + 1))
  refine za_aload_n dL_law_314 rfl ?_
  refine za_arg 1 hX dL_law_315 dL_law_316 dL_law_317 dL_law_318 dL_law_319 (by decide) (by omega) ?_
  refine za_callV dL_law_320 zm_L_32 zw_X5_now zv_X5_now c1 (by decide) rfl rfl rfl rfl (by decide) rfl (fun r1 s1 e1 => ?_)
  obtain ⟨rfl, E2, c2, k2⟩ := k1 r1 s1 e1
  refine za_aload_n dL_law_323 rfl ?_
  refine za_arg 1 hX dL_law_324 dL_law_325 dL_law_326 dL_law_327 dL_law_328 (by decide) (by omega) ?_
  refine za_callV dL_law_329 zm_L_35 zw_X6_now zv_X6_now c2 (by decide) rfl rfl rfl rfl (Nat.le_of_ble_eq_true rfl) rfl (fun r2 s2 e2 => ?_)
  obtain ⟨rfl, h2⟩ := k2 r2 s2 e2
  exact za_icmp_eq 1301 dL_law_332 (by decide) (fun _ => k s2 h2) (fun z => absurd rfl z)
set_option maxHeartbeats 1000000 in
theorem lb_person (hX : zScr C b L xs) (hi : i + 5 < L) (h : zRel σ) (k : ∀ S, zRel S → zAW g C 9 cL_law RL 1301 (zlvL g b i) [] S) : zAW g C 9 cL_law RL 337 (zlvL g b i) [] σ := by
  obtain ⟨r, E, c1, k1⟩ := law_person (g := g) h (xs (i + 1))
  refine za_aload_n dL_law_337 rfl ?_
  refine za_arg 1 hX dL_law_338 dL_law_339 dL_law_340 dL_law_341 dL_law_342 (by decide) (by omega) ?_
  refine za_callV dL_law_343 zm_L_36 zw_X5_person zv_X5_person c1 (by decide) rfl rfl rfl rfl (by decide) rfl (fun r1 s1 e1 => ?_)
  obtain ⟨rfl, E2, c2, k2⟩ := k1 r1 s1 e1
  refine za_aload_n dL_law_346 rfl ?_
  refine za_arg 1 hX dL_law_347 dL_law_348 dL_law_349 dL_law_350 dL_law_351 (by decide) (by omega) ?_
  refine za_callV dL_law_352 zm_L_39 zw_X6_person zv_X6_person c2 (by decide) rfl rfl rfl rfl (Nat.le_of_ble_eq_true rfl) rfl (fun r2 s2 e2 => ?_)
  obtain ⟨rfl, h2⟩ := k2 r2 s2 e2
  exact za_icmp_eq 1301 dL_law_355 (by decide) (fun _ => k s2 h2) (fun z => absurd rfl z)
set_option maxHeartbeats 1000000 in
theorem lb_of (hX : zScr C b L xs) (hi : i + 5 < L) (h : zRel σ) (k : ∀ S, zRel S → zAW g C 9 cL_law RL 1301 (zlvL g b i) [] S) : zAW g C 9 cL_law RL 360 (zlvL g b i) [] σ := by
  obtain ⟨r, E, c1, k1⟩ := law_of (g := g) h (xs (i + 1)) (xs (i + 2))
  refine za_aload_n dL_law_360 rfl ?_
  refine za_arg 1 hX dL_law_361 dL_law_362 dL_law_363 dL_law_364 dL_law_365 (by decide) (by omega) ?_
  refine za_arg 2 hX dL_law_366 dL_law_367 dL_law_368 dL_law_369 dL_law_370 (by decide) (by omega) ?_
  refine za_callV dL_law_371 zm_L_40 zw_X5_of zv_X5_of c1 (by decide) rfl rfl rfl rfl (by decide) rfl (fun r1 s1 e1 => ?_)
  obtain ⟨rfl, E2, c2, k2⟩ := k1 r1 s1 e1
  refine za_aload_n dL_law_374 rfl ?_
  refine za_arg 1 hX dL_law_375 dL_law_376 dL_law_377 dL_law_378 dL_law_379 (by decide) (by omega) ?_
  refine za_arg 2 hX dL_law_380 dL_law_381 dL_law_382 dL_law_383 dL_law_384 (by decide) (by omega) ?_
  refine za_callV dL_law_385 zm_L_43 zw_X6_of zv_X6_of c2 (by decide) rfl rfl rfl rfl (Nat.le_of_ble_eq_true rfl) rfl (fun r2 s2 e2 => ?_)
  obtain ⟨rfl, h2⟩ := k2 r2 s2 e2
  exact za_icmp_eq 1301 dL_law_388 (by decide) (fun _ => k s2 h2) (fun z => absurd rfl z)
set_option maxHeartbeats 1000000 in
theorem lb_acts (hX : zScr C b L xs) (hi : i + 5 < L) (h : zRel σ) (k : ∀ S, zRel S → zAW g C 9 cL_law RL 1301 (zlvL g b i) [] S) : zAW g C 9 cL_law RL 393 (zlvL g b i) [] σ := by
  obtain ⟨r, E, c1, k1⟩ := law_acts (g := g) h (xs (i + 1)) (xs (i + 2)) (xs (i + 3))
  refine za_aload_n dL_law_393 rfl ?_
  refine za_arg 1 hX dL_law_394 dL_law_395 dL_law_396 dL_law_397 dL_law_398 (by decide) (by omega) ?_
  refine za_arg 2 hX dL_law_399 dL_law_400 dL_law_401 dL_law_402 dL_law_403 (by decide) (by omega) ?_
  refine za_arg 3 hX dL_law_404 dL_law_405 dL_law_406 dL_law_407 dL_law_408 (by decide) (by omega) ?_
  refine za_callV dL_law_409 zm_L_44 zw_X5_acts zv_X5_acts c1 (by decide) rfl rfl rfl rfl (by decide) rfl (fun r1 s1 e1 => ?_)
  obtain ⟨rfl, E2, c2, k2⟩ := k1 r1 s1 e1
  refine za_aload_n dL_law_412 rfl ?_
  refine za_arg 1 hX dL_law_413 dL_law_414 dL_law_415 dL_law_416 dL_law_417 (by decide) (by omega) ?_
  refine za_arg 2 hX dL_law_418 dL_law_419 dL_law_420 dL_law_421 dL_law_422 (by decide) (by omega) ?_
  refine za_arg 3 hX dL_law_423 dL_law_424 dL_law_425 dL_law_426 dL_law_427 (by decide) (by omega) ?_
  refine za_callV dL_law_428 zm_L_47 zw_X6_acts zv_X6_acts c2 (by decide) rfl rfl rfl rfl (Nat.le_of_ble_eq_true rfl) rfl (fun r2 s2 e2 => ?_)
  obtain ⟨rfl, h2⟩ := k2 r2 s2 e2
  exact za_icmp_eq 1301 dL_law_431 (by decide) (fun _ => k s2 h2) (fun z => absurd rfl z)
set_option maxHeartbeats 1000000 in
theorem lb_set (hX : zScr C b L xs) (hi : i + 5 < L) (h : zRel σ) (k : ∀ S, zRel S → zAW g C 9 cL_law RL 1301 (zlvL g b i) [] S) : zAW g C 9 cL_law RL 436 (zlvL g b i) [] σ := by
  obtain ⟨r, E, c1, k1⟩ := law_set (g := g) h (xs (i + 1)) (xs (i + 2)) (xs (i + 3))
  refine za_aload_n dL_law_436 rfl ?_
  refine za_arg 1 hX dL_law_437 dL_law_438 dL_law_439 dL_law_440 dL_law_441 (by decide) (by omega) ?_
  refine za_arg 2 hX dL_law_442 dL_law_443 dL_law_444 dL_law_445 dL_law_446 (by decide) (by omega) ?_
  refine za_arg 3 hX dL_law_447 dL_law_448 dL_law_449 dL_law_450 dL_law_451 (by decide) (by omega) ?_
  refine za_callV dL_law_452 zm_L_48 zw_X5_set zv_X5_set c1 (by decide) rfl rfl rfl rfl (by decide) rfl (fun r1 s1 e1 => ?_)
  obtain ⟨rfl, E2, c2, k2⟩ := k1 r1 s1 e1
  refine za_aload_n dL_law_455 rfl ?_
  refine za_arg 1 hX dL_law_456 dL_law_457 dL_law_458 dL_law_459 dL_law_460 (by decide) (by omega) ?_
  refine za_arg 2 hX dL_law_461 dL_law_462 dL_law_463 dL_law_464 dL_law_465 (by decide) (by omega) ?_
  refine za_arg 3 hX dL_law_466 dL_law_467 dL_law_468 dL_law_469 dL_law_470 (by decide) (by omega) ?_
  refine za_callV dL_law_471 zm_L_51 zw_X6_set zv_X6_set c2 (by decide) rfl rfl rfl rfl (Nat.le_of_ble_eq_true rfl) rfl (fun r2 s2 e2 => ?_)
  obtain ⟨rfl, h2⟩ := k2 r2 s2 e2
  exact za_icmp_eq 1301 dL_law_474 (by decide) (fun _ => k s2 h2) (fun z => absurd rfl z)
set_option maxHeartbeats 1000000 in
theorem lb_turn (hX : zScr C b L xs) (hi : i + 5 < L) (h : zRel σ) (k : ∀ S, zRel S → zAW g C 9 cL_law RL 1301 (zlvL g b i) [] S) : zAW g C 9 cL_law RL 479 (zlvL g b i) [] σ := by
  obtain ⟨r, E, c1, k1⟩ := law_turn (g := g) h (xs (i + 1)) (xs (i + 2))
  refine za_aload_n dL_law_479 rfl ?_
  refine za_arg 1 hX dL_law_480 dL_law_481 dL_law_482 dL_law_483 dL_law_484 (by decide) (by omega) ?_
  refine za_arg 2 hX dL_law_485 dL_law_486 dL_law_487 dL_law_488 dL_law_489 (by decide) (by omega) ?_
  refine za_callV dL_law_490 zm_L_52 zw_X5_turn zv_X5_turn c1 (by decide) rfl rfl rfl rfl (by decide) rfl (fun r1 s1 e1 => ?_)
  obtain ⟨rfl, E2, c2, k2⟩ := k1 r1 s1 e1
  refine za_aload_n dL_law_493 rfl ?_
  refine za_arg 1 hX dL_law_494 dL_law_495 dL_law_496 dL_law_497 dL_law_498 (by decide) (by omega) ?_
  refine za_arg 2 hX dL_law_499 dL_law_500 dL_law_501 dL_law_502 dL_law_503 (by decide) (by omega) ?_
  refine za_callV dL_law_504 zm_L_55 zw_X6_turn zv_X6_turn c2 (by decide) rfl rfl rfl rfl (Nat.le_of_ble_eq_true rfl) rfl (fun r2 s2 e2 => ?_)
  obtain ⟨rfl, h2⟩ := k2 r2 s2 e2
  exact za_icmp_eq 1301 dL_law_507 (by decide) (fun _ => k s2 h2) (fun z => absurd rfl z)
set_option maxHeartbeats 1000000 in
theorem lb_as (hX : zScr C b L xs) (hi : i + 5 < L) (h : zRel σ) (k : ∀ S, zRel S → zAW g C 9 cL_law RL 1301 (zlvL g b i) [] S) : zAW g C 9 cL_law RL 512 (zlvL g b i) [] σ := by
  obtain ⟨r, E, c1, k1⟩ := law_as (g := g) h (xs (i + 1)) (xs (i + 2))
  refine za_aload_n dL_law_512 rfl ?_
  refine za_arg 1 hX dL_law_513 dL_law_514 dL_law_515 dL_law_516 dL_law_517 (by decide) (by omega) ?_
  refine za_arg 2 hX dL_law_518 dL_law_519 dL_law_520 dL_law_521 dL_law_522 (by decide) (by omega) ?_
  refine za_callV dL_law_523 zm_L_56 zw_X5_as zv_X5_as c1 (by decide) rfl rfl rfl rfl (by decide) rfl (fun r1 s1 e1 => ?_)
  obtain ⟨rfl, E2, c2, k2⟩ := k1 r1 s1 e1
  refine za_aload_n dL_law_526 rfl ?_
  refine za_arg 1 hX dL_law_527 dL_law_528 dL_law_529 dL_law_530 dL_law_531 (by decide) (by omega) ?_
  refine za_arg 2 hX dL_law_532 dL_law_533 dL_law_534 dL_law_535 dL_law_536 (by decide) (by omega) ?_
  refine za_callV dL_law_537 zm_L_59 zw_X6_as zv_X6_as c2 (by decide) rfl rfl rfl rfl (Nat.le_of_ble_eq_true rfl) rfl (fun r2 s2 e2 => ?_)
  obtain ⟨rfl, h2⟩ := k2 r2 s2 e2
  exact za_icmp_eq 1301 dL_law_540 (by decide) (fun _ => k s2 h2) (fun z => absurd rfl z)
set_option maxHeartbeats 1000000 in
theorem lb_days (hX : zScr C b L xs) (hi : i + 5 < L) (h : zRel σ) (k : ∀ S, zRel S → zAW g C 9 cL_law RL 1301 (zlvL g b i) [] S) : zAW g C 9 cL_law RL 545 (zlvL g b i) [] σ := by
  obtain ⟨r, E, c1, k1⟩ := law_days (g := g) h (xs (i + 1))
  refine za_aload_n dL_law_545 rfl ?_
  refine za_arg 1 hX dL_law_546 dL_law_547 dL_law_548 dL_law_549 dL_law_550 (by decide) (by omega) ?_
  refine za_callV dL_law_551 zm_L_60 zw_X5_days zv_X5_days c1 (by decide) rfl rfl rfl rfl (by decide) rfl (fun r1 s1 e1 => ?_)
  obtain ⟨rfl, E2, c2, k2⟩ := k1 r1 s1 e1
  refine za_aload_n dL_law_554 rfl ?_
  refine za_arg 1 hX dL_law_555 dL_law_556 dL_law_557 dL_law_558 dL_law_559 (by decide) (by omega) ?_
  refine za_callV dL_law_560 zm_L_63 zw_X6_days zv_X6_days c2 (by decide) rfl rfl rfl rfl (Nat.le_of_ble_eq_true rfl) rfl (fun r2 s2 e2 => ?_)
  obtain ⟨rfl, h2⟩ := k2 r2 s2 e2
  exact za_icmp_eq 1301 dL_law_563 (by decide) (fun _ => k s2 h2) (fun z => absurd rfl z)
set_option maxHeartbeats 1000000 in
theorem lb_on (hX : zScr C b L xs) (hi : i + 5 < L) (h : zRel σ) (k : ∀ S, zRel S → zAW g C 9 cL_law RL 1301 (zlvL g b i) [] S) : zAW g C 9 cL_law RL 568 (zlvL g b i) [] σ := by
  obtain ⟨r, E, c1, k1⟩ := law_on (g := g) h (xs (i + 1)) (xs (i + 2))
  refine za_aload_n dL_law_568 rfl ?_
  refine za_arg 1 hX dL_law_569 dL_law_570 dL_law_571 dL_law_572 dL_law_573 (by decide) (by omega) ?_
  refine za_arg 2 hX dL_law_574 dL_law_575 dL_law_576 dL_law_577 dL_law_578 (by decide) (by omega) ?_
  refine za_callV dL_law_579 zm_L_64 zw_X5_on zv_X5_on c1 (by decide) rfl rfl rfl rfl (by decide) rfl (fun r1 s1 e1 => ?_)
  obtain ⟨rfl, E2, c2, k2⟩ := k1 r1 s1 e1
  refine za_aload_n dL_law_582 rfl ?_
  refine za_arg 1 hX dL_law_583 dL_law_584 dL_law_585 dL_law_586 dL_law_587 (by decide) (by omega) ?_
  refine za_arg 2 hX dL_law_588 dL_law_589 dL_law_590 dL_law_591 dL_law_592 (by decide) (by omega) ?_
  refine za_callV dL_law_593 zm_L_67 zw_X6_on zv_X6_on c2 (by decide) rfl rfl rfl rfl (Nat.le_of_ble_eq_true rfl) rfl (fun r2 s2 e2 => ?_)
  obtain ⟨rfl, h2⟩ := k2 r2 s2 e2
  exact za_icmp_eq 1301 dL_law_596 (by decide) (fun _ => k s2 h2) (fun z => absurd rfl z)
set_option maxHeartbeats 1000000 in
theorem lb_then (hX : zScr C b L xs) (hi : i + 5 < L) (h : zRel σ) (k : ∀ S, zRel S → zAW g C 9 cL_law RL 1301 (zlvL g b i) [] S) : zAW g C 9 cL_law RL 601 (zlvL g b i) [] σ := by
  obtain ⟨r, E, c1, k1⟩ := law_then (g := g) h (xs (i + 1)) (xs (i + 2)) (xs (i + 3))
  refine za_aload_n dL_law_601 rfl ?_
  refine za_arg 1 hX dL_law_602 dL_law_603 dL_law_604 dL_law_605 dL_law_606 (by decide) (by omega) ?_
  refine za_arg 2 hX dL_law_607 dL_law_608 dL_law_609 dL_law_610 dL_law_611 (by decide) (by omega) ?_
  refine za_arg 3 hX dL_law_612 dL_law_613 dL_law_614 dL_law_615 dL_law_616 (by decide) (by omega) ?_
  refine za_callV dL_law_617 zm_L_68 zw_X5_then zv_X5_then c1 (by decide) rfl rfl rfl rfl (by decide) rfl (fun r1 s1 e1 => ?_)
  obtain ⟨rfl, E2, c2, k2⟩ := k1 r1 s1 e1
  refine za_aload_n dL_law_620 rfl ?_
  refine za_arg 1 hX dL_law_621 dL_law_622 dL_law_623 dL_law_624 dL_law_625 (by decide) (by omega) ?_
  refine za_arg 2 hX dL_law_626 dL_law_627 dL_law_628 dL_law_629 dL_law_630 (by decide) (by omega) ?_
  refine za_arg 3 hX dL_law_631 dL_law_632 dL_law_633 dL_law_634 dL_law_635 (by decide) (by omega) ?_
  refine za_callV dL_law_636 zm_L_71 zw_X6_then zv_X6_then c2 (by decide) rfl rfl rfl rfl (Nat.le_of_ble_eq_true rfl) rfl (fun r2 s2 e2 => ?_)
  obtain ⟨rfl, h2⟩ := k2 r2 s2 e2
  exact za_icmp_eq 1301 dL_law_639 (by decide) (fun _ => k s2 h2) (fun z => absurd rfl z)
set_option maxHeartbeats 1000000 in
theorem lb_flips (hX : zScr C b L xs) (hi : i + 5 < L) (h : zRel σ) (k : ∀ S, zRel S → zAW g C 9 cL_law RL 1301 (zlvL g b i) [] S) : zAW g C 9 cL_law RL 644 (zlvL g b i) [] σ := by
  obtain ⟨r, E, c1, k1⟩ := law_flips (g := g) h (xs (i + 1))
  refine za_aload_n dL_law_644 rfl ?_
  refine za_arg 1 hX dL_law_645 dL_law_646 dL_law_647 dL_law_648 dL_law_649 (by decide) (by omega) ?_
  refine za_callV dL_law_650 zm_L_72 zw_X5_flips zv_X5_flips c1 (by decide) rfl rfl rfl rfl (by decide) rfl (fun r1 s1 e1 => ?_)
  obtain ⟨rfl, E2, c2, k2⟩ := k1 r1 s1 e1
  refine za_aload_n dL_law_653 rfl ?_
  refine za_arg 1 hX dL_law_654 dL_law_655 dL_law_656 dL_law_657 dL_law_658 (by decide) (by omega) ?_
  refine za_callV dL_law_659 zm_L_75 zw_X6_flips zv_X6_flips c2 (by decide) rfl rfl rfl rfl (Nat.le_of_ble_eq_true rfl) rfl (fun r2 s2 e2 => ?_)
  obtain ⟨rfl, h2⟩ := k2 r2 s2 e2
  exact za_icmp_eq 1301 dL_law_662 (by decide) (fun _ => k s2 h2) (fun z => absurd rfl z)
set_option maxHeartbeats 1000000 in
theorem lb_rich (hX : zScr C b L xs) (hi : i + 5 < L) (h : zRel σ) (k : ∀ S, zRel S → zAW g C 9 cL_law RL 1301 (zlvL g b i) [] S) : zAW g C 9 cL_law RL 667 (zlvL g b i) [] σ := by
  obtain ⟨r, E, c1, k1⟩ := law_rich (g := g) h (xs (i + 1)) (xs (i + 2))
  refine za_aload_n dL_law_667 rfl ?_
  refine za_arg 1 hX dL_law_668 dL_law_669 dL_law_670 dL_law_671 dL_law_672 (by decide) (by omega) ?_
  refine za_arg 2 hX dL_law_673 dL_law_674 dL_law_675 dL_law_676 dL_law_677 (by decide) (by omega) ?_
  refine za_callV dL_law_678 zm_L_76 zw_X5_rich zv_X5_rich c1 (by decide) rfl rfl rfl rfl (by decide) rfl (fun r1 s1 e1 => ?_)
  obtain ⟨rfl, E2, c2, k2⟩ := k1 r1 s1 e1
  refine za_aload_n dL_law_681 rfl ?_
  refine za_arg 1 hX dL_law_682 dL_law_683 dL_law_684 dL_law_685 dL_law_686 (by decide) (by omega) ?_
  refine za_arg 2 hX dL_law_687 dL_law_688 dL_law_689 dL_law_690 dL_law_691 (by decide) (by omega) ?_
  refine za_callV dL_law_692 zm_L_79 zw_X6_rich zv_X6_rich c2 (by decide) rfl rfl rfl rfl (Nat.le_of_ble_eq_true rfl) rfl (fun r2 s2 e2 => ?_)
  obtain ⟨rfl, h2⟩ := k2 r2 s2 e2
  exact za_icmp_eq 1301 dL_law_695 (by decide) (fun _ => k s2 h2) (fun z => absurd rfl z)
set_option maxHeartbeats 1000000 in
theorem lb_kind (hX : zScr C b L xs) (hi : i + 5 < L) (h : zRel σ) (k : ∀ S, zRel S → zAW g C 9 cL_law RL 1301 (zlvL g b i) [] S) : zAW g C 9 cL_law RL 700 (zlvL g b i) [] σ := by
  obtain ⟨r, E, c1, k1⟩ := law_kind (g := g) h (xs (i + 1)) (xs (i + 2))
  refine za_aload_n dL_law_700 rfl ?_
  refine za_arg 1 hX dL_law_701 dL_law_702 dL_law_703 dL_law_704 dL_law_705 (by decide) (by omega) ?_
  refine za_arg 2 hX dL_law_706 dL_law_707 dL_law_708 dL_law_709 dL_law_710 (by decide) (by omega) ?_
  refine za_callV dL_law_711 zm_L_80 zw_X5_kind zv_X5_kind c1 (by decide) rfl rfl rfl rfl (by decide) rfl (fun r1 s1 e1 => ?_)
  obtain ⟨rfl, E2, c2, k2⟩ := k1 r1 s1 e1
  refine za_aload_n dL_law_714 rfl ?_
  refine za_arg 1 hX dL_law_715 dL_law_716 dL_law_717 dL_law_718 dL_law_719 (by decide) (by omega) ?_
  refine za_arg 2 hX dL_law_720 dL_law_721 dL_law_722 dL_law_723 dL_law_724 (by decide) (by omega) ?_
  refine za_callV dL_law_725 zm_L_83 zw_X6_kind zv_X6_kind c2 (by decide) rfl rfl rfl rfl (Nat.le_of_ble_eq_true rfl) rfl (fun r2 s2 e2 => ?_)
  obtain ⟨rfl, h2⟩ := k2 r2 s2 e2
  exact za_icmp_eq 1301 dL_law_728 (by decide) (fun _ => k s2 h2) (fun z => absurd rfl z)
set_option maxHeartbeats 1000000 in
theorem lb_lean (hX : zScr C b L xs) (hi : i + 5 < L) (h : zRel σ) (k : ∀ S, zRel S → zAW g C 9 cL_law RL 1301 (zlvL g b i) [] S) : zAW g C 9 cL_law RL 733 (zlvL g b i) [] σ := by
  obtain ⟨r, E, c1, k1⟩ := law_lean (g := g) h (xs (i + 1)) (xs (i + 2))
  refine za_aload_n dL_law_733 rfl ?_
  refine za_arg 1 hX dL_law_734 dL_law_735 dL_law_736 dL_law_737 dL_law_738 (by decide) (by omega) ?_
  refine za_arg 2 hX dL_law_739 dL_law_740 dL_law_741 dL_law_742 dL_law_743 (by decide) (by omega) ?_
  refine za_callV dL_law_744 zm_L_84 zw_X5_lean zv_X5_lean c1 (by decide) rfl rfl rfl rfl (by decide) rfl (fun r1 s1 e1 => ?_)
  obtain ⟨rfl, E2, c2, k2⟩ := k1 r1 s1 e1
  refine za_aload_n dL_law_747 rfl ?_
  refine za_arg 1 hX dL_law_748 dL_law_749 dL_law_750 dL_law_751 dL_law_752 (by decide) (by omega) ?_
  refine za_arg 2 hX dL_law_753 dL_law_754 dL_law_755 dL_law_756 dL_law_757 (by decide) (by omega) ?_
  refine za_callV dL_law_758 zm_L_87 zw_X6_lean zv_X6_lean c2 (by decide) rfl rfl rfl rfl (Nat.le_of_ble_eq_true rfl) rfl (fun r2 s2 e2 => ?_)
  obtain ⟨rfl, h2⟩ := k2 r2 s2 e2
  exact za_icmp_eq 1301 dL_law_761 (by decide) (fun _ => k s2 h2) (fun z => absurd rfl z)
set_option maxHeartbeats 1000000 in
theorem lb_buys (hX : zScr C b L xs) (hi : i + 5 < L) (h : zRel σ) (k : ∀ S, zRel S → zAW g C 9 cL_law RL 1301 (zlvL g b i) [] S) : zAW g C 9 cL_law RL 766 (zlvL g b i) [] σ := by
  obtain ⟨r, E, c1, k1⟩ := law_buys (g := g) h (xs (i + 1)) (xs (i + 2)) (xs (i + 3))
  refine za_aload_n dL_law_766 rfl ?_
  refine za_arg 1 hX dL_law_767 dL_law_768 dL_law_769 dL_law_770 dL_law_771 (by decide) (by omega) ?_
  refine za_arg 2 hX dL_law_772 dL_law_773 dL_law_774 dL_law_775 dL_law_776 (by decide) (by omega) ?_
  refine za_arg 3 hX dL_law_777 dL_law_778 dL_law_779 dL_law_780 dL_law_781 (by decide) (by omega) ?_
  refine za_callV dL_law_782 zm_L_88 zw_X5_buys zv_X5_buys c1 (by decide) rfl rfl rfl rfl (by decide) rfl (fun r1 s1 e1 => ?_)
  obtain ⟨rfl, E2, c2, k2⟩ := k1 r1 s1 e1
  refine za_aload_n dL_law_785 rfl ?_
  refine za_arg 1 hX dL_law_786 dL_law_787 dL_law_788 dL_law_789 dL_law_790 (by decide) (by omega) ?_
  refine za_arg 2 hX dL_law_791 dL_law_792 dL_law_793 dL_law_794 dL_law_795 (by decide) (by omega) ?_
  refine za_arg 3 hX dL_law_796 dL_law_797 dL_law_798 dL_law_799 dL_law_800 (by decide) (by omega) ?_
  refine za_callV dL_law_801 zm_L_91 zw_X6_buys zv_X6_buys c2 (by decide) rfl rfl rfl rfl (Nat.le_of_ble_eq_true rfl) rfl (fun r2 s2 e2 => ?_)
  obtain ⟨rfl, h2⟩ := k2 r2 s2 e2
  exact za_icmp_eq 1301 dL_law_804 (by decide) (fun _ => k s2 h2) (fun z => absurd rfl z)
set_option maxHeartbeats 1000000 in
theorem lb_swing (hX : zScr C b L xs) (hi : i + 5 < L) (h : zRel σ) (k : ∀ S, zRel S → zAW g C 9 cL_law RL 1301 (zlvL g b i) [] S) : zAW g C 9 cL_law RL 809 (zlvL g b i) [] σ := by
  obtain ⟨r, E, c1, k1⟩ := law_swing (g := g) h (xs (i + 1))
  refine za_aload_n dL_law_809 rfl ?_
  refine za_arg 1 hX dL_law_810 dL_law_811 dL_law_812 dL_law_813 dL_law_814 (by decide) (by omega) ?_
  refine za_callV dL_law_815 zm_L_92 zw_X5_swing zv_X5_swing c1 (by decide) rfl rfl rfl rfl (by decide) rfl (fun r1 s1 e1 => ?_)
  obtain ⟨rfl, E2, c2, k2⟩ := k1 r1 s1 e1
  refine za_aload_n dL_law_818 rfl ?_
  refine za_arg 1 hX dL_law_819 dL_law_820 dL_law_821 dL_law_822 dL_law_823 (by decide) (by omega) ?_
  refine za_callV dL_law_824 zm_L_95 zw_X6_swing zv_X6_swing c2 (by decide) rfl rfl rfl rfl (Nat.le_of_ble_eq_true rfl) rfl (fun r2 s2 e2 => ?_)
  obtain ⟨rfl, h2⟩ := k2 r2 s2 e2
  exact za_icmp_eq 1301 dL_law_827 (by decide) (fun _ => k s2 h2) (fun z => absurd rfl z)
set_option maxHeartbeats 1000000 in
theorem lb_pays (hX : zScr C b L xs) (hi : i + 5 < L) (h : zRel σ) (k : ∀ S, zRel S → zAW g C 9 cL_law RL 1301 (zlvL g b i) [] S) : zAW g C 9 cL_law RL 832 (zlvL g b i) [] σ := by
  obtain ⟨r, E, c1, k1⟩ := law_pays (g := g) h (xs (i + 1))
  refine za_aload_n dL_law_832 rfl ?_
  refine za_arg 1 hX dL_law_833 dL_law_834 dL_law_835 dL_law_836 dL_law_837 (by decide) (by omega) ?_
  refine za_callV dL_law_838 zm_L_96 zw_X5_pays zv_X5_pays c1 (by decide) rfl rfl rfl rfl (by decide) rfl (fun r1 s1 e1 => ?_)
  obtain ⟨rfl, E2, c2, k2⟩ := k1 r1 s1 e1
  refine za_aload_n dL_law_841 rfl ?_
  refine za_arg 1 hX dL_law_842 dL_law_843 dL_law_844 dL_law_845 dL_law_846 (by decide) (by omega) ?_
  refine za_callV dL_law_847 zm_L_99 zw_X6_pays zv_X6_pays c2 (by decide) rfl rfl rfl rfl (Nat.le_of_ble_eq_true rfl) rfl (fun r2 s2 e2 => ?_)
  obtain ⟨rfl, h2⟩ := k2 r2 s2 e2
  exact za_icmp_eq 1301 dL_law_850 (by decide) (fun _ => k s2 h2) (fun z => absurd rfl z)
set_option maxHeartbeats 1000000 in
theorem lb_richest (hX : zScr C b L xs) (hi : i + 5 < L) (h : zRel σ) (k : ∀ S, zRel S → zAW g C 9 cL_law RL 1301 (zlvL g b i) [] S) : zAW g C 9 cL_law RL 855 (zlvL g b i) [] σ := by
  obtain ⟨r, E, c1, k1⟩ := law_richest (g := g) h (xs (i + 1))
  refine za_aload_n dL_law_855 rfl ?_
  refine za_arg 1 hX dL_law_856 dL_law_857 dL_law_858 dL_law_859 dL_law_860 (by decide) (by omega) ?_
  refine za_callV dL_law_861 zm_L_100 zw_X5_richest zv_X5_richest c1 (by decide) rfl rfl rfl rfl (by decide) rfl (fun r1 s1 e1 => ?_)
  obtain ⟨rfl, E2, c2, k2⟩ := k1 r1 s1 e1
  refine za_aload_n dL_law_864 rfl ?_
  refine za_arg 1 hX dL_law_865 dL_law_866 dL_law_867 dL_law_868 dL_law_869 (by decide) (by omega) ?_
  refine za_callV dL_law_870 zm_L_103 zw_X6_richest zv_X6_richest c2 (by decide) rfl rfl rfl rfl (Nat.le_of_ble_eq_true rfl) rfl (fun r2 s2 e2 => ?_)
  obtain ⟨rfl, h2⟩ := k2 r2 s2 e2
  exact za_icmp_eq 1301 dL_law_873 (by decide) (fun _ => k s2 h2) (fun z => absurd rfl z)
set_option maxHeartbeats 1000000 in
theorem lb_feed (hX : zScr C b L xs) (hi : i + 5 < L) (h : zRel σ) (k : ∀ S, zRel S → zAW g C 9 cL_law RL 1301 (zlvL g b i) [] S) : zAW g C 9 cL_law RL 878 (zlvL g b i) [] σ := by
  obtain ⟨r, E, c1, k1⟩ := law_feed (g := g) h (xs (i + 1)) (xs (i + 2))
  refine za_aload_n dL_law_878 rfl ?_
  refine za_arg 1 hX dL_law_879 dL_law_880 dL_law_881 dL_law_882 dL_law_883 (by decide) (by omega) ?_
  refine za_arg 2 hX dL_law_884 dL_law_885 dL_law_886 dL_law_887 dL_law_888 (by decide) (by omega) ?_
  refine za_callV dL_law_889 zm_L_104 zw_X5_feed zv_X5_feed c1 (by decide) rfl rfl rfl rfl (by decide) rfl (fun r1 s1 e1 => ?_)
  obtain ⟨rfl, E2, c2, k2⟩ := k1 r1 s1 e1
  refine za_aload_n dL_law_892 rfl ?_
  refine za_arg 1 hX dL_law_893 dL_law_894 dL_law_895 dL_law_896 dL_law_897 (by decide) (by omega) ?_
  refine za_arg 2 hX dL_law_898 dL_law_899 dL_law_900 dL_law_901 dL_law_902 (by decide) (by omega) ?_
  refine za_callV dL_law_903 zm_L_107 zw_X6_feed zv_X6_feed c2 (by decide) rfl rfl rfl rfl (Nat.le_of_ble_eq_true rfl) rfl (fun r2 s2 e2 => ?_)
  obtain ⟨rfl, h2⟩ := k2 r2 s2 e2
  exact za_icmp_eq 1301 dL_law_906 (by decide) (fun _ => k s2 h2) (fun z => absurd rfl z)
set_option maxHeartbeats 1000000 in
theorem lb_wipe (hX : zScr C b L xs) (hi : i + 5 < L) (h : zRel σ) (k : ∀ S, zRel S → zAW g C 9 cL_law RL 1301 (zlvL g b i) [] S) : zAW g C 9 cL_law RL 911 (zlvL g b i) [] σ := by
  obtain ⟨r, E, c1, k1⟩ := law_wipe (g := g) h 
  refine za_aload_n dL_law_911 rfl ?_
  refine za_callV dL_law_912 zm_L_108 zw_X5_wipe zv_X5_wipe c1 (by decide) rfl rfl rfl rfl (by decide) rfl (fun r1 s1 e1 => ?_)
  obtain ⟨rfl, E2, c2, k2⟩ := k1 r1 s1 e1
  refine za_aload_n dL_law_915 rfl ?_
  refine za_callV dL_law_916 zm_L_112 zw_X6_wipe zv_X6_wipe c2 (by decide) rfl rfl rfl rfl (Nat.le_of_ble_eq_true rfl) rfl (fun r2 s2 e2 => ?_)
  obtain ⟨rfl, h2⟩ := k2 r2 s2 e2
  exact za_icmp_eq 1301 dL_law_919 (by decide) (fun _ => k s2 h2) (fun z => absurd rfl z)
set_option maxHeartbeats 1000000 in
theorem lb_town (hX : zScr C b L xs) (hi : i + 5 < L) (h : zRel σ) (k : ∀ S, zRel S → zAW g C 9 cL_law RL 1301 (zlvL g b i) [] S) : zAW g C 9 cL_law RL 924 (zlvL g b i) [] σ := by
  obtain ⟨r, E, c1, k1⟩ := law_town (g := g) h 
  refine za_aload_n dL_law_924 rfl ?_
  refine za_callV dL_law_925 zm_L_113 zw_X5_town zv_X5_town c1 (by decide) rfl rfl rfl rfl (by decide) rfl (fun r1 s1 e1 => ?_)
  obtain ⟨rfl, E2, c2, k2⟩ := k1 r1 s1 e1
  refine za_aload_n dL_law_928 rfl ?_
  refine za_callV dL_law_929 zm_L_116 zw_X6_town zv_X6_town c2 (by decide) rfl rfl rfl rfl (Nat.le_of_ble_eq_true rfl) rfl (fun r2 s2 e2 => ?_)
  obtain ⟨rfl, h2⟩ := k2 r2 s2 e2
  exact za_icmp_eq 1301 dL_law_932 (by decide) (fun _ => k s2 h2) (fun z => absurd rfl z)
set_option maxHeartbeats 1000000 in
theorem lb_sheet (hX : zScr C b L xs) (hi : i + 5 < L) (h : zRel σ) (k : ∀ S, zRel S → zAW g C 9 cL_law RL 1301 (zlvL g b i) [] S) : zAW g C 9 cL_law RL 937 (zlvL g b i) [] σ := by
  obtain ⟨r, E, c1, k1⟩ := law_sheet (g := g) h (xs (i + 1)) (xs (i + 2)) (xs (i + 3))
  refine za_aload_n dL_law_937 rfl ?_
  refine za_arg 1 hX dL_law_938 dL_law_939 dL_law_940 dL_law_941 dL_law_942 (by decide) (by omega) ?_
  refine za_arg 2 hX dL_law_943 dL_law_944 dL_law_945 dL_law_946 dL_law_947 (by decide) (by omega) ?_
  refine za_arg 3 hX dL_law_948 dL_law_949 dL_law_950 dL_law_951 dL_law_952 (by decide) (by omega) ?_
  refine za_callV dL_law_953 zm_L_117 zw_X5_sheet zv_X5_sheet c1 (by decide) rfl rfl rfl rfl (by decide) rfl (fun r1 s1 e1 => ?_)
  obtain ⟨rfl, E2, c2, k2⟩ := k1 r1 s1 e1
  refine za_aload_n dL_law_956 rfl ?_
  refine za_arg 1 hX dL_law_957 dL_law_958 dL_law_959 dL_law_960 dL_law_961 (by decide) (by omega) ?_
  refine za_arg 2 hX dL_law_962 dL_law_963 dL_law_964 dL_law_965 dL_law_966 (by decide) (by omega) ?_
  refine za_arg 3 hX dL_law_967 dL_law_968 dL_law_969 dL_law_970 dL_law_971 (by decide) (by omega) ?_
  refine za_callV dL_law_972 zm_L_120 zw_X6_sheet zv_X6_sheet c2 (by decide) rfl rfl rfl rfl (Nat.le_of_ble_eq_true rfl) rfl (fun r2 s2 e2 => ?_)
  obtain ⟨rfl, h2⟩ := k2 r2 s2 e2
  exact za_icmp_eq 1301 dL_law_975 (by decide) (fun _ => k s2 h2) (fun z => absurd rfl z)
set_option maxHeartbeats 1000000 in
theorem lb_write (hX : zScr C b L xs) (hi : i + 5 < L) (h : zRel σ) (k : ∀ S, zRel S → zAW g C 9 cL_law RL 1301 (zlvL g b i) [] S) : zAW g C 9 cL_law RL 980 (zlvL g b i) [] σ := by
  obtain ⟨r, E, c1, k1⟩ := law_write (g := g) h (xs (i + 1)) (xs (i + 2)) (((xs (i + 3)).toInt64 <<< ((nI 32).toInt64 &&& 63)) ||| ((xs (i + 4)).toInt64 &&& 4294967295))
  refine za_aload_n dL_law_980 rfl ?_
  refine za_arg 1 hX dL_law_981 dL_law_982 dL_law_983 dL_law_984 dL_law_985 (by decide) (by omega) ?_
  refine za_arg 2 hX dL_law_986 dL_law_987 dL_law_988 dL_law_989 dL_law_990 (by decide) (by omega) ?_
  refine za_arg 3 hX dL_law_991 dL_law_992 dL_law_993 dL_law_994 dL_law_995 (by decide) (by omega) ?_
  refine za_i2l dL_law_996 ?_
  refine za_bipush (nI 32) dL_law_997 (by decide +kernel) ?_
  refine za_lshl dL_law_999 ?_
  refine za_arg 4 hX dL_law_1000 dL_law_1001 dL_law_1002 dL_law_1003 dL_law_1004 (by decide) (by omega) ?_
  refine za_i2l dL_law_1005 ?_
  refine za_ldc2 dL_law_1006 zk_L_121 ?_
  refine za_land dL_law_1009 ?_
  refine za_lor dL_law_1010 ?_
  refine za_callV dL_law_1011 zm_L_123 zw_X5_write zv_X5_write c1 (by decide) rfl rfl rfl rfl (by decide) rfl (fun r1 s1 e1 => ?_)
  obtain ⟨rfl, E2, c2, k2⟩ := k1 r1 s1 e1
  refine za_aload_n dL_law_1014 rfl ?_
  refine za_arg 1 hX dL_law_1015 dL_law_1016 dL_law_1017 dL_law_1018 dL_law_1019 (by decide) (by omega) ?_
  refine za_arg 2 hX dL_law_1020 dL_law_1021 dL_law_1022 dL_law_1023 dL_law_1024 (by decide) (by omega) ?_
  refine za_arg 3 hX dL_law_1025 dL_law_1026 dL_law_1027 dL_law_1028 dL_law_1029 (by decide) (by omega) ?_
  refine za_i2l dL_law_1030 ?_
  refine za_bipush (nI 32) dL_law_1031 (by decide +kernel) ?_
  refine za_lshl dL_law_1033 ?_
  refine za_arg 4 hX dL_law_1034 dL_law_1035 dL_law_1036 dL_law_1037 dL_law_1038 (by decide) (by omega) ?_
  refine za_i2l dL_law_1039 ?_
  refine za_ldc2 dL_law_1040 zk_L_121 ?_
  refine za_land dL_law_1043 ?_
  refine za_lor dL_law_1044 ?_
  refine za_callV dL_law_1045 zm_L_127 zw_X6_write zv_X6_write c2 (by decide) rfl rfl rfl rfl (Nat.le_of_ble_eq_true rfl) rfl (fun r2 s2 e2 => ?_)
  obtain ⟨rfl, h2⟩ := k2 r2 s2 e2
  refine za_lcmp dL_law_1048 ?_
  exact za_if_eq 1301 dL_law_1049 (by decide) (fun _ => k s2 h2) (fun z => absurd (lg_cmp_self r) z)
set_option maxHeartbeats 1000000 in
theorem lb_copy (hX : zScr C b L xs) (hi : i + 5 < L) (h : zRel σ) (k : ∀ S, zRel S → zAW g C 9 cL_law RL 1301 (zlvL g b i) [] S) : zAW g C 9 cL_law RL 1054 (zlvL g b i) [] σ := by
  obtain ⟨r, E, c1, k1⟩ := law_copy (g := g) h (xs (i + 1)) (xs (i + 2)) (xs (i + 3)) (xs (i + 4)) (xs (i + 5))
  refine za_aload_n dL_law_1054 rfl ?_
  refine za_arg 1 hX dL_law_1055 dL_law_1056 dL_law_1057 dL_law_1058 dL_law_1059 (by decide) (by omega) ?_
  refine za_arg 2 hX dL_law_1060 dL_law_1061 dL_law_1062 dL_law_1063 dL_law_1064 (by decide) (by omega) ?_
  refine za_arg 3 hX dL_law_1065 dL_law_1066 dL_law_1067 dL_law_1068 dL_law_1069 (by decide) (by omega) ?_
  refine za_arg 4 hX dL_law_1070 dL_law_1071 dL_law_1072 dL_law_1073 dL_law_1074 (by decide) (by omega) ?_
  refine za_arg 5 hX dL_law_1075 dL_law_1076 dL_law_1077 dL_law_1078 dL_law_1079 (by decide) (by omega) ?_
  refine za_callV dL_law_1080 zm_L_128 zw_X5_copy zv_X5_copy c1 (by decide) rfl rfl rfl rfl (by decide) rfl (fun r1 s1 e1 => ?_)
  obtain ⟨rfl, E2, c2, k2⟩ := k1 r1 s1 e1
  refine za_aload_n dL_law_1083 rfl ?_
  refine za_arg 1 hX dL_law_1084 dL_law_1085 dL_law_1086 dL_law_1087 dL_law_1088 (by decide) (by omega) ?_
  refine za_arg 2 hX dL_law_1089 dL_law_1090 dL_law_1091 dL_law_1092 dL_law_1093 (by decide) (by omega) ?_
  refine za_arg 3 hX dL_law_1094 dL_law_1095 dL_law_1096 dL_law_1097 dL_law_1098 (by decide) (by omega) ?_
  refine za_arg 4 hX dL_law_1099 dL_law_1100 dL_law_1101 dL_law_1102 dL_law_1103 (by decide) (by omega) ?_
  refine za_arg 5 hX dL_law_1104 dL_law_1105 dL_law_1106 dL_law_1107 dL_law_1108 (by decide) (by omega) ?_
  refine za_callV dL_law_1109 zm_L_132 zw_X6_copy zv_X6_copy c2 (by decide) rfl rfl rfl rfl (Nat.le_of_ble_eq_true rfl) rfl (fun r2 s2 e2 => ?_)
  obtain ⟨rfl, h2⟩ := k2 r2 s2 e2
  exact za_icmp_eq 1301 dL_law_1112 (by decide) (fun _ => k s2 h2) (fun z => absurd rfl z)
set_option maxHeartbeats 1000000 in
theorem lb_lays (hX : zScr C b L xs) (hi : i + 5 < L) (h : zRel σ) (k : ∀ S, zRel S → zAW g C 9 cL_law RL 1301 (zlvL g b i) [] S) : zAW g C 9 cL_law RL 1117 (zlvL g b i) [] σ := by
  obtain ⟨r, E, c1, k1⟩ := law_lays (g := g) h (xs (i + 1))
  refine za_aload_n dL_law_1117 rfl ?_
  refine za_arg 1 hX dL_law_1118 dL_law_1119 dL_law_1120 dL_law_1121 dL_law_1122 (by decide) (by omega) ?_
  refine za_callV dL_law_1123 zm_L_133 zw_X5_lays zv_X5_lays c1 (by decide) rfl rfl rfl rfl (by decide) rfl (fun r1 s1 e1 => ?_)
  obtain ⟨rfl, E2, c2, k2⟩ := k1 r1 s1 e1
  refine za_aload_n dL_law_1126 rfl ?_
  refine za_arg 1 hX dL_law_1127 dL_law_1128 dL_law_1129 dL_law_1130 dL_law_1131 (by decide) (by omega) ?_
  refine za_callV dL_law_1132 zm_L_136 zw_X6_lays zv_X6_lays c2 (by decide) rfl rfl rfl rfl (Nat.le_of_ble_eq_true rfl) rfl (fun r2 s2 e2 => ?_)
  obtain ⟨rfl, h2⟩ := k2 r2 s2 e2
  exact za_icmp_eq 1301 dL_law_1135 (by decide) (fun _ => k s2 h2) (fun z => absurd rfl z)
set_option maxHeartbeats 1000000 in
theorem lb_book (hX : zScr C b L xs) (hi : i + 5 < L) (h : zRel σ) (k : ∀ S, zRel S → zAW g C 9 cL_law RL 1301 (zlvL g b i) [] S) : zAW g C 9 cL_law RL 1140 (zlvL g b i) [] σ := by
  obtain ⟨r, E, c1, k1⟩ := law_book (g := g) h (xs (i + 1)) (xs (i + 2))
  refine za_aload_n dL_law_1140 rfl ?_
  refine za_arg 1 hX dL_law_1141 dL_law_1142 dL_law_1143 dL_law_1144 dL_law_1145 (by decide) (by omega) ?_
  refine za_arg 2 hX dL_law_1146 dL_law_1147 dL_law_1148 dL_law_1149 dL_law_1150 (by decide) (by omega) ?_
  refine za_callV dL_law_1151 zm_L_137 zw_X5_book zv_X5_book c1 (by decide) rfl rfl rfl rfl (by decide) rfl (fun r1 s1 e1 => ?_)
  obtain ⟨rfl, E2, c2, k2⟩ := k1 r1 s1 e1
  refine za_aload_n dL_law_1154 rfl ?_
  refine za_arg 1 hX dL_law_1155 dL_law_1156 dL_law_1157 dL_law_1158 dL_law_1159 (by decide) (by omega) ?_
  refine za_arg 2 hX dL_law_1160 dL_law_1161 dL_law_1162 dL_law_1163 dL_law_1164 (by decide) (by omega) ?_
  refine za_callV dL_law_1165 zm_L_140 zw_X6_book zv_X6_book c2 (by decide) rfl rfl rfl rfl (Nat.le_of_ble_eq_true rfl) rfl (fun r2 s2 e2 => ?_)
  obtain ⟨rfl, h2⟩ := k2 r2 s2 e2
  exact za_icmp_eq 1301 dL_law_1168 (by decide) (fun _ => k s2 h2) (fun z => absurd rfl z)
set_option maxHeartbeats 1000000 in
theorem lb_read (hX : zScr C b L xs) (hi : i + 5 < L) (h : zRel σ) (k : ∀ S, zRel S → zAW g C 9 cL_law RL 1301 (zlvL g b i) [] S) : zAW g C 9 cL_law RL 1173 (zlvL g b i) [] σ := by
  obtain ⟨r, E, c1, k1⟩ := law_read (g := g) h (xs (i + 1)) (xs (i + 2)) (xs (i + 3))
  refine za_aload_n dL_law_1173 rfl ?_
  refine za_arg 1 hX dL_law_1174 dL_law_1175 dL_law_1176 dL_law_1177 dL_law_1178 (by decide) (by omega) ?_
  refine za_arg 2 hX dL_law_1179 dL_law_1180 dL_law_1181 dL_law_1182 dL_law_1183 (by decide) (by omega) ?_
  refine za_arg 3 hX dL_law_1184 dL_law_1185 dL_law_1186 dL_law_1187 dL_law_1188 (by decide) (by omega) ?_
  refine za_callV dL_law_1189 zm_L_141 zw_X5_read zv_X5_read c1 (by decide) rfl rfl rfl rfl (by decide) rfl (fun r1 s1 e1 => ?_)
  obtain ⟨rfl, E2, c2, k2⟩ := k1 r1 s1 e1
  refine za_aload_n dL_law_1192 rfl ?_
  refine za_arg 1 hX dL_law_1193 dL_law_1194 dL_law_1195 dL_law_1196 dL_law_1197 (by decide) (by omega) ?_
  refine za_arg 2 hX dL_law_1198 dL_law_1199 dL_law_1200 dL_law_1201 dL_law_1202 (by decide) (by omega) ?_
  refine za_arg 3 hX dL_law_1203 dL_law_1204 dL_law_1205 dL_law_1206 dL_law_1207 (by decide) (by omega) ?_
  refine za_callV dL_law_1208 zm_L_144 zw_X6_read zv_X6_read c2 (by decide) rfl rfl rfl rfl (Nat.le_of_ble_eq_true rfl) rfl (fun r2 s2 e2 => ?_)
  obtain ⟨rfl, h2⟩ := k2 r2 s2 e2
  exact za_icmp_eq 1301 dL_law_1211 (by decide) (fun _ => k s2 h2) (fun z => absurd rfl z)
set_option maxHeartbeats 1000000 in
theorem lb_image (hX : zScr C b L xs) (hi : i + 5 < L) (h : zRel σ) (k : ∀ S, zRel S → zAW g C 9 cL_law RL 1301 (zlvL g b i) [] S) : zAW g C 9 cL_law RL 1216 (zlvL g b i) [] σ := by
  obtain ⟨r, E, c1, k1⟩ := law_image (g := g) h 
  refine za_aload_n dL_law_1216 rfl ?_
  refine za_callV dL_law_1217 zm_L_145 zw_X5_image zv_X5_image c1 (by decide) rfl rfl rfl rfl (by decide) rfl (fun r1 s1 e1 => ?_)
  obtain ⟨rfl, E2, c2, k2⟩ := k1 r1 s1 e1
  refine za_aload_n dL_law_1220 rfl ?_
  refine za_callV dL_law_1221 zm_L_148 zw_X6_image zv_X6_image c2 (by decide) rfl rfl rfl rfl (Nat.le_of_ble_eq_true rfl) rfl (fun r2 s2 e2 => ?_)
  obtain ⟨rfl, h2⟩ := k2 r2 s2 e2
  exact za_icmp_eq 1301 dL_law_1224 (by decide) (fun _ => k s2 h2) (fun z => absurd rfl z)
set_option maxHeartbeats 1000000 in
theorem lb_undo (hX : zScr C b L xs) (hi : i + 5 < L) (h : zRel σ) (k : ∀ S, zRel S → zAW g C 9 cL_law RL 1301 (zlvL g b i) [] S) : zAW g C 9 cL_law RL 1229 (zlvL g b i) [] σ := by
  obtain ⟨r, E, c1, k1⟩ := law_undo (g := g) h 
  refine za_aload_n dL_law_1229 rfl ?_
  refine za_callV dL_law_1230 zm_L_149 zw_X5_undo zv_X5_undo c1 (by decide) rfl rfl rfl rfl (by decide) rfl (fun r1 s1 e1 => ?_)
  obtain ⟨rfl, E2, c2, k2⟩ := k1 r1 s1 e1
  refine za_aload_n dL_law_1233 rfl ?_
  refine za_callV dL_law_1234 zm_L_152 zw_X6_undo zv_X6_undo c2 (by decide) rfl rfl rfl rfl (Nat.le_of_ble_eq_true rfl) rfl (fun r2 s2 e2 => ?_)
  obtain ⟨rfl, h2⟩ := k2 r2 s2 e2
  exact za_icmp_eq 1301 dL_law_1237 (by decide) (fun _ => k s2 h2) (fun z => absurd rfl z)
set_option maxHeartbeats 1000000 in
theorem lb_tear (hX : zScr C b L xs) (hi : i + 5 < L) (h : zRel σ) (k : ∀ S, zRel S → zAW g C 9 cL_law RL 1301 (zlvL g b i) [] S) : zAW g C 9 cL_law RL 1242 (zlvL g b i) [] σ := by
  obtain ⟨r, E, c1, k1⟩ := law_tear (g := g) h 
  refine za_aload_n dL_law_1242 rfl ?_
  refine za_callV dL_law_1243 zm_L_153 zw_X5_tear zv_X5_tear c1 (by decide) rfl rfl rfl rfl (by decide) rfl (fun r1 s1 e1 => ?_)
  obtain ⟨rfl, E2, c2, k2⟩ := k1 r1 s1 e1
  refine za_aload_n dL_law_1246 rfl ?_
  refine za_callV dL_law_1247 zm_L_156 zw_X6_tear zv_X6_tear c2 (by decide) rfl rfl rfl rfl (Nat.le_of_ble_eq_true rfl) rfl (fun r2 s2 e2 => ?_)
  obtain ⟨rfl, h2⟩ := k2 r2 s2 e2
  exact za_icmp_eq 1301 dL_law_1250 (by decide) (fun _ => k s2 h2) (fun z => absurd rfl z)
set_option maxHeartbeats 1000000 in
theorem lb_count (hX : zScr C b L xs) (hi : i + 5 < L) (h : zRel σ) (k : ∀ S, zRel S → zAW g C 9 cL_law RL 1301 (zlvL g b i) [] S) : zAW g C 9 cL_law RL 1255 (zlvL g b i) [] σ := by
  obtain ⟨r, E, c1, k1⟩ := law_count (g := g) h (xs (i + 1))
  refine za_aload_n dL_law_1255 rfl ?_
  refine za_arg 1 hX dL_law_1256 dL_law_1257 dL_law_1258 dL_law_1259 dL_law_1260 (by decide) (by omega) ?_
  refine za_callV dL_law_1261 zm_L_157 zw_X5_count zv_X5_count c1 (by decide) rfl rfl rfl rfl (by decide) rfl (fun r1 s1 e1 => ?_)
  obtain ⟨rfl, E2, c2, k2⟩ := k1 r1 s1 e1
  refine za_aload_n dL_law_1264 rfl ?_
  refine za_arg 1 hX dL_law_1265 dL_law_1266 dL_law_1267 dL_law_1268 dL_law_1269 (by decide) (by omega) ?_
  refine za_callV dL_law_1270 zm_L_160 zw_X6_count zv_X6_count c2 (by decide) rfl rfl rfl rfl (Nat.le_of_ble_eq_true rfl) rfl (fun r2 s2 e2 => ?_)
  obtain ⟨rfl, h2⟩ := k2 r2 s2 e2
  exact za_icmp_eq 1301 dL_law_1273 (by decide) (fun _ => k s2 h2) (fun z => absurd rfl z)
set_option maxHeartbeats 1000000 in
theorem lb_status (hX : zScr C b L xs) (hi : i + 5 < L) (h : zRel σ) (k : ∀ S, zRel S → zAW g C 9 cL_law RL 1301 (zlvL g b i) [] S) : zAW g C 9 cL_law RL 1278 (zlvL g b i) [] σ := by
  obtain ⟨r, E, c1, k1⟩ := law_status (g := g) h (xs (i + 1))
  refine za_aload_n dL_law_1278 rfl ?_
  refine za_arg 1 hX dL_law_1279 dL_law_1280 dL_law_1281 dL_law_1282 dL_law_1283 (by decide) (by omega) ?_
  refine za_callV dL_law_1284 zm_L_161 zw_X5_status zv_X5_status c1 (by decide) rfl rfl rfl rfl (by decide) rfl (fun r1 s1 e1 => ?_)
  obtain ⟨rfl, E2, c2, k2⟩ := k1 r1 s1 e1
  refine za_aload_n dL_law_1287 rfl ?_
  refine za_arg 1 hX dL_law_1288 dL_law_1289 dL_law_1290 dL_law_1291 dL_law_1292 (by decide) (by omega) ?_
  refine za_callV dL_law_1293 zm_L_164 zw_X6_status zv_X6_status c2 (by decide) rfl rfl rfl rfl (Nat.le_of_ble_eq_true rfl) rfl (fun r2 s2 e2 => ?_)
  obtain ⟨rfl, h2⟩ := k2 r2 s2 e2
  exact za_icmp_eq 1301 dL_law_1296 (by decide) (fun _ => k s2 h2) (fun z => absurd rfl z)
end ZBLK

section ZLOOP
variable {g : zG} {C : zC} {b L : Nat} {xs : Nat → Int32}
set_option maxHeartbeats 4000000 in
set_option maxRecDepth 100000 in
theorem lb_all {σ : zSto} {i : Nat} (hX : zScr C b L xs) (hi : i + 5 < L) (h : zRel σ) (k : ∀ S, zRel S → zAW g C 9 cL_law RL 1301 (zlvL g b i) [] S) (x : Int32) : zAW g C 9 cL_law RL 33 (zlvL g b i) [.int (x &&& nI 63)] σ := by
  obtain ⟨n, hn, e⟩ := zand63 x
  rw [e]
  by_cases h36 : n < 36
  · match n, h36 with
    | 0, _ => exact za_tabK 159 192 dL_law_33 (by decide) (by decide) (by decide) (by decide) (lb_lies hX hi h k)
    | 1, _ => exact za_tabK 202 235 dL_law_33 (by decide) (by decide) (by decide) (by decide) (lb_basin hX hi h k)
    | 2, _ => exact za_tabK 235 268 dL_law_33 (by decide) (by decide) (by decide) (by decide) (lb_bribe hX hi h k)
    | 3, _ => exact za_tabK 258 291 dL_law_33 (by decide) (by decide) (by decide) (by decide) (lb_held hX hi h k)
    | 4, _ => exact za_tabK 281 314 dL_law_33 (by decide) (by decide) (by decide) (by decide) (lb_now hX hi h k)
    | 5, _ => exact za_tabK 304 337 dL_law_33 (by decide) (by decide) (by decide) (by decide) (lb_person hX hi h k)
    | 6, _ => exact za_tabK 327 360 dL_law_33 (by decide) (by decide) (by decide) (by decide) (lb_of hX hi h k)
    | 7, _ => exact za_tabK 360 393 dL_law_33 (by decide) (by decide) (by decide) (by decide) (lb_acts hX hi h k)
    | 8, _ => exact za_tabK 403 436 dL_law_33 (by decide) (by decide) (by decide) (by decide) (lb_set hX hi h k)
    | 9, _ => exact za_tabK 446 479 dL_law_33 (by decide) (by decide) (by decide) (by decide) (lb_turn hX hi h k)
    | 10, _ => exact za_tabK 479 512 dL_law_33 (by decide) (by decide) (by decide) (by decide) (lb_as hX hi h k)
    | 11, _ => exact za_tabK 512 545 dL_law_33 (by decide) (by decide) (by decide) (by decide) (lb_days hX hi h k)
    | 12, _ => exact za_tabK 535 568 dL_law_33 (by decide) (by decide) (by decide) (by decide) (lb_on hX hi h k)
    | 13, _ => exact za_tabK 568 601 dL_law_33 (by decide) (by decide) (by decide) (by decide) (lb_then hX hi h k)
    | 14, _ => exact za_tabK 611 644 dL_law_33 (by decide) (by decide) (by decide) (by decide) (lb_flips hX hi h k)
    | 15, _ => exact za_tabK 634 667 dL_law_33 (by decide) (by decide) (by decide) (by decide) (lb_rich hX hi h k)
    | 16, _ => exact za_tabK 667 700 dL_law_33 (by decide) (by decide) (by decide) (by decide) (lb_kind hX hi h k)
    | 17, _ => exact za_tabK 700 733 dL_law_33 (by decide) (by decide) (by decide) (by decide) (lb_lean hX hi h k)
    | 18, _ => exact za_tabK 733 766 dL_law_33 (by decide) (by decide) (by decide) (by decide) (lb_buys hX hi h k)
    | 19, _ => exact za_tabK 776 809 dL_law_33 (by decide) (by decide) (by decide) (by decide) (lb_swing hX hi h k)
    | 20, _ => exact za_tabK 799 832 dL_law_33 (by decide) (by decide) (by decide) (by decide) (lb_pays hX hi h k)
    | 21, _ => exact za_tabK 822 855 dL_law_33 (by decide) (by decide) (by decide) (by decide) (lb_richest hX hi h k)
    | 22, _ => exact za_tabK 845 878 dL_law_33 (by decide) (by decide) (by decide) (by decide) (lb_feed hX hi h k)
    | 23, _ => exact za_tabK 878 911 dL_law_33 (by decide) (by decide) (by decide) (by decide) (lb_wipe hX hi h k)
    | 24, _ => exact za_tabK 891 924 dL_law_33 (by decide) (by decide) (by decide) (by decide) (lb_town hX hi h k)
    | 25, _ => exact za_tabK 904 937 dL_law_33 (by decide) (by decide) (by decide) (by decide) (lb_sheet hX hi h k)
    | 26, _ => exact za_tabK 947 980 dL_law_33 (by decide) (by decide) (by decide) (by decide) (lb_write hX hi h k)
    | 27, _ => exact za_tabK 1021 1054 dL_law_33 (by decide) (by decide) (by decide) (by decide) (lb_copy hX hi h k)
    | 28, _ => exact za_tabK 1084 1117 dL_law_33 (by decide) (by decide) (by decide) (by decide) (lb_lays hX hi h k)
    | 29, _ => exact za_tabK 1107 1140 dL_law_33 (by decide) (by decide) (by decide) (by decide) (lb_book hX hi h k)
    | 30, _ => exact za_tabK 1140 1173 dL_law_33 (by decide) (by decide) (by decide) (by decide) (lb_read hX hi h k)
    | 31, _ => exact za_tabK 1183 1216 dL_law_33 (by decide) (by decide) (by decide) (by decide) (lb_image hX hi h k)
    | 32, _ => exact za_tabK 1196 1229 dL_law_33 (by decide) (by decide) (by decide) (by decide) (lb_undo hX hi h k)
    | 33, _ => exact za_tabK 1209 1242 dL_law_33 (by decide) (by decide) (by decide) (by decide) (lb_tear hX hi h k)
    | 34, _ => exact za_tabK 1222 1255 dL_law_33 (by decide) (by decide) (by decide) (by decide) (lb_count hX hi h k)
    | 35, _ => exact za_tabK 1245 1278 dL_law_33 (by decide) (by decide) (by decide) (by decide) (lb_status hX hi h k)
    | n + 36, q => exact absurd q (by omega)
  · exact za_tabO 1301 dL_law_33 (Or.inr (by rw [nI_toInt (by omega)]; omega)) (by decide) (k σ h)
theorem zsub6 {i : Nat} (hL : L ≤ 3072) (hi : i ≤ 4000) : nI L - nI 6 < nI i ↔ L < i + 6 := by
  rw [Int32.lt_iff_toInt_lt, Int32.toInt_sub, nI_toInt (by omega), nI_toInt (by omega), nI_toInt (by omega)]
  rw [Int.bmod_eq_of_le (by omega) (by omega)]
  omega
set_option maxHeartbeats 4000000 in
/-- THE LAW'S LOOP: at its head both sides hold the same -/
theorem law_loop (hX : zScr C b L xs) (hN : zcN C = 4) (hend : ∀ (i : Nat) (S : zSto), zAW g C 9 cL_law RL 1307 (zlvL g b i) [] S) : ∀ (n i : Nat) (S : zSto), i ≤ L + 5 → L ≤ i + n → zRel S → zAW g C 9 cL_law RL 18 (zlvL g b i) [] S := by
  have hL : L ≤ 3072 := hX.2.2.2
  intro n
  induction n with
  | zero =>
    intro i S hi hin h
    refine za_iload_n dL_law_18 rfl ?_
    refine za_aload_n dL_law_19 rfl ?_
    refine za_slen hX dL_law_20 ?_
    refine za_bipush (nI 6) dL_law_21 (by decide +kernel) ?_
    refine za_isub dL_law_23 ?_
    exact za_icmp_gt 1307 dL_law_24 (by decide) (fun _ => hend i S) (fun z => absurd ((zsub6 hL (by omega)).mpr (by omega)) z)
  | succ n ih =>
    intro i S hi hin h
    refine za_iload_n dL_law_18 rfl ?_
    refine za_aload_n dL_law_19 rfl ?_
    refine za_slen hX dL_law_20 ?_
    refine za_bipush (nI 6) dL_law_21 (by decide +kernel) ?_
    refine za_isub dL_law_23 ?_
    refine za_icmp_gt 1307 dL_law_24 (by decide) (fun _ => hend i S) (fun z => ?_)
    have hlt : ¬ L < i + 6 := fun q => z ((zsub6 hL (by omega)).mpr q)
    refine za_aload_n dL_law_27 rfl ?_
    refine za_iload_n dL_law_28 rfl ?_
    refine za_sld hX dL_law_29 (by omega) ?_
    refine za_bipush (nI 63) dL_law_30 (by decide +kernel) ?_
    refine za_iand dL_law_32 ?_
    refine lb_all hX (by omega) h (fun S2 h2 => ?_) (xs i)
    refine za_iinc (nI (i + 6)) dL_law_1301 rfl hN (by decide) (znplus i 6) rfl ?_
    refine za_goto 18 dL_law_1304 (by decide) ?_
    exact ih (i + 6) S2 (by omega) (by omega) h2
end ZLOOP
