/-! the law: the script's ints, a case for each call, the loop -/
def SB (X : CX) (G : GM) (b L : Nat) (xs : Nat → Int32) : Prop := va_X b L xs X.2.2.2.2.1 X.2.2.2.2.1.heap ∧ b < X.2.2.2.2.1.heap.size ∧ ¬ G.2.2.2.1 b
section LAW
variable {X : CX} {G : GM} {own : String} {cc : ByteArray} {nL d pc : Nat} {lv : LVs} {st : List Value} {σ : SG} {b L : Nat} {xs : Nat → Int32}
theorem vin_nI {k L : Nat} (h : k < L) (hL : L ≤ 3072) : vp_in (nI k) L := vp_in_iff.mpr (by rw [nI_toInt (by omega)]; omega)
theorem r_sld {k : Nat} {x : Int32} (hX : Fx X G own cc nL d) (hd : decode cc pc = .ok (.iaload, 1)) (hB : SB X G b L xs) (hL : L ≤ 3072) (hk : k < L) (hx : x = nI k) (kk : RR X G nL (pc + 1) lv (.int (xs k) :: st) σ) : RR X G nL pc lv (.int x :: .ref b :: st) σ := by
  subst hx
  intro H locs ls hP hS hls
  refine va_sld (A := G.2.2.2.1) hX.1 hX.2.1 hB.1 hB.2.1 hB.2.2 hS (vin_nI hk hL) hd ?_
  rw [nI_clamp (by omega)]
  exact kk H locs ls hP hS hls
theorem r_slen (hX : Fx X G own cc nL d) (hd : decode cc pc = .ok (.arraylength, 1)) (hB : SB X G b L xs) (kk : RR X G nL (pc + 1) lv (.int (nI L) :: st) σ) : RR X G nL pc lv (.ref b :: st) σ := by
  intro H locs ls hP hS hls
  exact va_slen (A := G.2.2.2.1) hX.1 hX.2.1 hB.1 hB.2.1 hB.2.2 hS hd (kk H locs ls hP hS hls)
theorem r_arg {i j : Nat} {z : Int} (hX : Fx X G own cc nL d) (hB : SB X G b L xs) (hL : L ≤ 3072) (h0 : lv 0 = some (.ref b)) (h3 : lv 3 = some (.int (nI i))) (hi : i + 6 ≤ L) (hj : j < 6) (hz : Int32.ofInt z = nI j) (d1 : decode cc pc = .ok (.aload_n 0, 1)) (d2 : decode cc (pc + 1) = .ok (.iload_n 3, 1)) (d3 : decode cc (pc + 2) = .ok (.iconst z, 1)) (d4 : decode cc (pc + 3) = .ok (.iadd, 1)) (d5 : decode cc (pc + 4) = .ok (.iaload, 1)) (kk : RR X G nL (pc + 5) lv (.int (xs (i + j)) :: st) σ) : RR X G nL pc lv st σ := by
  refine r_aload_n hX d1 h0 ⟨_, rfl⟩ ?_
  refine r_iload_n (i := 3) hX d2 h3 ?_
  refine r_iconst hX d3 hz ?_
  refine r_iadd hX d4 ?_
  exact r_sld hX d5 hB hL (by omega) (nI_add i j) kk
end LAW
abbrev lvL (G : GM) (b i : Nat) : LVs := ll [(0, .ref b), (1, rf G 0), (2, rf G 109), (3, .int (nI i))]
section LWC
variable {X : CX} {G : GM} {σ : SG} {b L i : Nat} {xs : Nat → Int32}

theorem lw_mule (hX : Fx X G RL cL_law 4 200) (hB : SB X G b L xs) (hL : L ≤ 3072) (hi : i + 6 ≤ L) (hR : Rel σ) (kk : ∀ σ', Rel σ' → RR X G 4 1388 (lvL G b i) [] σ') : RR X G 4 208 (lvL G b i) [] σ := by
  obtain ⟨P, hc1, hc2⟩ := p_mule (G := G) (kind := xs (i + 1)) (pace := xs (i + 2)) (grain := xs (i + 3)) (hole := xs (i + 4)) hR
  refine r_aload_n hX dL_law_208 rfl ⟨_, rfl⟩ (RR.pc (b := 209) rfl ?_)
  refine r_arg (i := i) (j := 1) hX hB hL rfl rfl hi (by decide) rfl dL_law_209 dL_law_210 dL_law_211 dL_law_212 dL_law_213 (RR.pc (b := 214) rfl ?_)
  refine r_arg (i := i) (j := 2) hX hB hL rfl rfl hi (by decide) rfl dL_law_214 dL_law_215 dL_law_216 dL_law_217 dL_law_218 (RR.pc (b := 219) rfl ?_)
  refine r_arg (i := i) (j := 3) hX hB hL rfl rfl hi (by decide) rfl dL_law_219 dL_law_220 dL_law_221 dL_law_222 dL_law_223 (RR.pc (b := 224) rfl ?_)
  refine r_arg (i := i) (j := 4) hX hB hL rfl rfl hi (by decide) rfl dL_law_224 dL_law_225 dL_law_226 dL_law_227 dL_law_228 (RR.pc (b := 229) rfl ?_)
  refine r_callVi hX dL_law_229 ml_L_13 cd_X7_mule iv_X7_mule hc1 (by decide) rfl rfl rfl rfl rfl (Nat.le_of_ble_eq_true rfl) (fun r s hp => RR.pc (b := 232) rfl ?_)
  refine r_aload_n hX dL_law_232 rfl ⟨_, rfl⟩ (RR.pc (b := 233) rfl ?_)
  refine r_arg (i := i) (j := 1) hX hB hL rfl rfl hi (by decide) rfl dL_law_233 dL_law_234 dL_law_235 dL_law_236 dL_law_237 (RR.pc (b := 238) rfl ?_)
  refine r_arg (i := i) (j := 2) hX hB hL rfl rfl hi (by decide) rfl dL_law_238 dL_law_239 dL_law_240 dL_law_241 dL_law_242 (RR.pc (b := 243) rfl ?_)
  refine r_arg (i := i) (j := 3) hX hB hL rfl rfl hi (by decide) rfl dL_law_243 dL_law_244 dL_law_245 dL_law_246 dL_law_247 (RR.pc (b := 248) rfl ?_)
  refine r_arg (i := i) (j := 4) hX hB hL rfl rfl hi (by decide) rfl dL_law_248 dL_law_249 dL_law_250 dL_law_251 dL_law_252 (RR.pc (b := 253) rfl ?_)
  refine r_callVi hX dL_law_253 ml_L_17 cd_X8_mule iv_X8_mule (hc2 r s hp) (by decide) rfl rfl rfl rfl rfl (Nat.le_of_ble_eq_true rfl) (fun r' s' hq => RR.pc (b := 256) rfl ?_)
  exact r_icmp_eq (tgt := 1388) hX dL_law_256 rfl (fun _ => kk s' hq.2) (fun z => absurd hq.1.symm z)
theorem lw_told (hX : Fx X G RL cL_law 4 200) (hB : SB X G b L xs) (hL : L ≤ 3072) (hi : i + 6 ≤ L) (hR : Rel σ) (kk : ∀ σ', Rel σ' → RR X G 4 1388 (lvL G b i) [] σ') : RR X G 4 261 (lvL G b i) [] σ := by
  obtain ⟨P, hc1, hc2⟩ := p_told (G := G) (k := xs (i + 1)) (what := xs (i + 2)) hR
  refine r_aload_n hX dL_law_261 rfl ⟨_, rfl⟩ (RR.pc (b := 262) rfl ?_)
  refine r_arg (i := i) (j := 1) hX hB hL rfl rfl hi (by decide) rfl dL_law_262 dL_law_263 dL_law_264 dL_law_265 dL_law_266 (RR.pc (b := 267) rfl ?_)
  refine r_arg (i := i) (j := 2) hX hB hL rfl rfl hi (by decide) rfl dL_law_267 dL_law_268 dL_law_269 dL_law_270 dL_law_271 (RR.pc (b := 272) rfl ?_)
  refine r_callVi hX dL_law_272 ml_L_18 cd_X7_told iv_X7_told hc1 (by decide) rfl rfl rfl rfl rfl (Nat.le_of_ble_eq_true rfl) (fun r s hp => RR.pc (b := 275) rfl ?_)
  refine r_aload_n hX dL_law_275 rfl ⟨_, rfl⟩ (RR.pc (b := 276) rfl ?_)
  refine r_arg (i := i) (j := 1) hX hB hL rfl rfl hi (by decide) rfl dL_law_276 dL_law_277 dL_law_278 dL_law_279 dL_law_280 (RR.pc (b := 281) rfl ?_)
  refine r_arg (i := i) (j := 2) hX hB hL rfl rfl hi (by decide) rfl dL_law_281 dL_law_282 dL_law_283 dL_law_284 dL_law_285 (RR.pc (b := 286) rfl ?_)
  refine r_callVi hX dL_law_286 ml_L_22 cd_X8_told iv_X8_told (hc2 r s hp) (by decide) rfl rfl rfl rfl rfl (Nat.le_of_ble_eq_true rfl) (fun r' s' hq => RR.pc (b := 289) rfl ?_)
  exact r_icmp_eq (tgt := 1388) hX dL_law_289 rfl (fun _ => kk s' hq.2) (fun z => absurd hq.1.symm z)
theorem lw_as (hX : Fx X G RL cL_law 4 200) (hB : SB X G b L xs) (hL : L ≤ 3072) (hi : i + 6 ≤ L) (hR : Rel σ) (kk : ∀ σ', Rel σ' → RR X G 4 1388 (lvL G b i) [] σ') : RR X G 4 294 (lvL G b i) [] σ := by
  obtain ⟨P, hc1, hc2⟩ := p_as (G := G) (k := xs (i + 1)) (kind := xs (i + 2)) hR
  refine r_aload_n hX dL_law_294 rfl ⟨_, rfl⟩ (RR.pc (b := 295) rfl ?_)
  refine r_arg (i := i) (j := 1) hX hB hL rfl rfl hi (by decide) rfl dL_law_295 dL_law_296 dL_law_297 dL_law_298 dL_law_299 (RR.pc (b := 300) rfl ?_)
  refine r_arg (i := i) (j := 2) hX hB hL rfl rfl hi (by decide) rfl dL_law_300 dL_law_301 dL_law_302 dL_law_303 dL_law_304 (RR.pc (b := 305) rfl ?_)
  refine r_callVi hX dL_law_305 ml_L_23 cd_X7_as iv_X7_as hc1 (by decide) rfl rfl rfl rfl rfl (Nat.le_of_ble_eq_true rfl) (fun r s hp => RR.pc (b := 308) rfl ?_)
  refine r_aload_n hX dL_law_308 rfl ⟨_, rfl⟩ (RR.pc (b := 309) rfl ?_)
  refine r_arg (i := i) (j := 1) hX hB hL rfl rfl hi (by decide) rfl dL_law_309 dL_law_310 dL_law_311 dL_law_312 dL_law_313 (RR.pc (b := 314) rfl ?_)
  refine r_arg (i := i) (j := 2) hX hB hL rfl rfl hi (by decide) rfl dL_law_314 dL_law_315 dL_law_316 dL_law_317 dL_law_318 (RR.pc (b := 319) rfl ?_)
  refine r_callVi hX dL_law_319 ml_L_26 cd_X8_as iv_X8_as (hc2 r s hp) (by decide) rfl rfl rfl rfl rfl (Nat.le_of_ble_eq_true rfl) (fun r' s' hq => RR.pc (b := 322) rfl ?_)
  exact r_icmp_eq (tgt := 1388) hX dL_law_322 rfl (fun _ => kk s' hq.2) (fun z => absurd hq.1.symm z)
theorem lw_turns (hX : Fx X G RL cL_law 4 200) (hB : SB X G b L xs) (hL : L ≤ 3072) (hi : i + 6 ≤ L) (hR : Rel σ) (kk : ∀ σ', Rel σ' → RR X G 4 1388 (lvL G b i) [] σ') : RR X G 4 327 (lvL G b i) [] σ := by
  obtain ⟨P, hc1, hc2⟩ := p_turns (G := G) (k := xs (i + 1)) (kind := xs (i + 2)) hR
  refine r_aload_n hX dL_law_327 rfl ⟨_, rfl⟩ (RR.pc (b := 328) rfl ?_)
  refine r_arg (i := i) (j := 1) hX hB hL rfl rfl hi (by decide) rfl dL_law_328 dL_law_329 dL_law_330 dL_law_331 dL_law_332 (RR.pc (b := 333) rfl ?_)
  refine r_arg (i := i) (j := 2) hX hB hL rfl rfl hi (by decide) rfl dL_law_333 dL_law_334 dL_law_335 dL_law_336 dL_law_337 (RR.pc (b := 338) rfl ?_)
  refine r_callVi hX dL_law_338 ml_L_27 cd_X7_turns iv_X7_turns hc1 (by decide) rfl rfl rfl rfl rfl (Nat.le_of_ble_eq_true rfl) (fun r s hp => RR.pc (b := 341) rfl ?_)
  refine r_aload_n hX dL_law_341 rfl ⟨_, rfl⟩ (RR.pc (b := 342) rfl ?_)
  refine r_arg (i := i) (j := 1) hX hB hL rfl rfl hi (by decide) rfl dL_law_342 dL_law_343 dL_law_344 dL_law_345 dL_law_346 (RR.pc (b := 347) rfl ?_)
  refine r_arg (i := i) (j := 2) hX hB hL rfl rfl hi (by decide) rfl dL_law_347 dL_law_348 dL_law_349 dL_law_350 dL_law_351 (RR.pc (b := 352) rfl ?_)
  refine r_callVi hX dL_law_352 ml_L_30 cd_X8_turns iv_X8_turns (hc2 r s hp) (by decide) rfl rfl rfl rfl rfl (Nat.le_of_ble_eq_true rfl) (fun r' s' hq => RR.pc (b := 355) rfl ?_)
  exact r_icmp_eq (tgt := 1388) hX dL_law_355 rfl (fun _ => kk s' hq.2) (fun z => absurd hq.1.symm z)
theorem lw_set (hX : Fx X G RL cL_law 4 200) (hB : SB X G b L xs) (hL : L ≤ 3072) (hi : i + 6 ≤ L) (hR : Rel σ) (kk : ∀ σ', Rel σ' → RR X G 4 1388 (lvL G b i) [] σ') : RR X G 4 360 (lvL G b i) [] σ := by
  obtain ⟨P, hc1, hc2⟩ := p_set (G := G) (k := xs (i + 1)) (what := xs (i + 2)) (v := xs (i + 3)) hR
  refine r_aload_n hX dL_law_360 rfl ⟨_, rfl⟩ (RR.pc (b := 361) rfl ?_)
  refine r_arg (i := i) (j := 1) hX hB hL rfl rfl hi (by decide) rfl dL_law_361 dL_law_362 dL_law_363 dL_law_364 dL_law_365 (RR.pc (b := 366) rfl ?_)
  refine r_arg (i := i) (j := 2) hX hB hL rfl rfl hi (by decide) rfl dL_law_366 dL_law_367 dL_law_368 dL_law_369 dL_law_370 (RR.pc (b := 371) rfl ?_)
  refine r_arg (i := i) (j := 3) hX hB hL rfl rfl hi (by decide) rfl dL_law_371 dL_law_372 dL_law_373 dL_law_374 dL_law_375 (RR.pc (b := 376) rfl ?_)
  refine r_callVi hX dL_law_376 ml_L_31 cd_X7_set iv_X7_set hc1 (by decide) rfl rfl rfl rfl rfl (Nat.le_of_ble_eq_true rfl) (fun r s hp => RR.pc (b := 379) rfl ?_)
  refine r_aload_n hX dL_law_379 rfl ⟨_, rfl⟩ (RR.pc (b := 380) rfl ?_)
  refine r_arg (i := i) (j := 1) hX hB hL rfl rfl hi (by decide) rfl dL_law_380 dL_law_381 dL_law_382 dL_law_383 dL_law_384 (RR.pc (b := 385) rfl ?_)
  refine r_arg (i := i) (j := 2) hX hB hL rfl rfl hi (by decide) rfl dL_law_385 dL_law_386 dL_law_387 dL_law_388 dL_law_389 (RR.pc (b := 390) rfl ?_)
  refine r_arg (i := i) (j := 3) hX hB hL rfl rfl hi (by decide) rfl dL_law_390 dL_law_391 dL_law_392 dL_law_393 dL_law_394 (RR.pc (b := 395) rfl ?_)
  refine r_callVi hX dL_law_395 ml_L_35 cd_X8_set iv_X8_set (hc2 r s hp) (by decide) rfl rfl rfl rfl rfl (Nat.le_of_ble_eq_true rfl) (fun r' s' hq => RR.pc (b := 398) rfl ?_)
  exact r_icmp_eq (tgt := 1388) hX dL_law_398 rfl (fun _ => kk s' hq.2) (fun z => absurd hq.1.symm z)
theorem lw_rule (hX : Fx X G RL cL_law 4 200) (hB : SB X G b L xs) (hL : L ≤ 3072) (hi : i + 6 ≤ L) (hR : Rel σ) (kk : ∀ σ', Rel σ' → RR X G 4 1388 (lvL G b i) [] σ') : RR X G 4 403 (lvL G b i) [] σ := by
  obtain ⟨P, hc1, hc2⟩ := p_rule (G := G) (what := xs (i + 1)) (v := xs (i + 2)) hR
  refine r_aload_n hX dL_law_403 rfl ⟨_, rfl⟩ (RR.pc (b := 404) rfl ?_)
  refine r_arg (i := i) (j := 1) hX hB hL rfl rfl hi (by decide) rfl dL_law_404 dL_law_405 dL_law_406 dL_law_407 dL_law_408 (RR.pc (b := 409) rfl ?_)
  refine r_arg (i := i) (j := 2) hX hB hL rfl rfl hi (by decide) rfl dL_law_409 dL_law_410 dL_law_411 dL_law_412 dL_law_413 (RR.pc (b := 414) rfl ?_)
  refine r_callVi hX dL_law_414 ml_L_36 cd_X7_rule iv_X7_rule hc1 (by decide) rfl rfl rfl rfl rfl (Nat.le_of_ble_eq_true rfl) (fun r s hp => RR.pc (b := 417) rfl ?_)
  refine r_aload_n hX dL_law_417 rfl ⟨_, rfl⟩ (RR.pc (b := 418) rfl ?_)
  refine r_arg (i := i) (j := 1) hX hB hL rfl rfl hi (by decide) rfl dL_law_418 dL_law_419 dL_law_420 dL_law_421 dL_law_422 (RR.pc (b := 423) rfl ?_)
  refine r_arg (i := i) (j := 2) hX hB hL rfl rfl hi (by decide) rfl dL_law_423 dL_law_424 dL_law_425 dL_law_426 dL_law_427 (RR.pc (b := 428) rfl ?_)
  refine r_callVi hX dL_law_428 ml_L_39 cd_X8_rule iv_X8_rule (hc2 r s hp) (by decide) rfl rfl rfl rfl rfl (Nat.le_of_ble_eq_true rfl) (fun r' s' hq => RR.pc (b := 431) rfl ?_)
  exact r_icmp_eq (tgt := 1388) hX dL_law_431 rfl (fun _ => kk s' hq.2) (fun z => absurd hq.1.symm z)
theorem lw_yard (hX : Fx X G RL cL_law 4 200) (hB : SB X G b L xs) (hL : L ≤ 3072) (hi : i + 6 ≤ L) (hR : Rel σ) (kk : ∀ σ', Rel σ' → RR X G 4 1388 (lvL G b i) [] σ') : RR X G 4 436 (lvL G b i) [] σ := by
  obtain ⟨P, hc1, hc2⟩ := p_yard (G := G) (y := xs (i + 1)) (what := xs (i + 2)) hR
  refine r_aload_n hX dL_law_436 rfl ⟨_, rfl⟩ (RR.pc (b := 437) rfl ?_)
  refine r_arg (i := i) (j := 1) hX hB hL rfl rfl hi (by decide) rfl dL_law_437 dL_law_438 dL_law_439 dL_law_440 dL_law_441 (RR.pc (b := 442) rfl ?_)
  refine r_arg (i := i) (j := 2) hX hB hL rfl rfl hi (by decide) rfl dL_law_442 dL_law_443 dL_law_444 dL_law_445 dL_law_446 (RR.pc (b := 447) rfl ?_)
  refine r_callVi hX dL_law_447 ml_L_40 cd_X7_yard iv_X7_yard hc1 (by decide) rfl rfl rfl rfl rfl (Nat.le_of_ble_eq_true rfl) (fun r s hp => RR.pc (b := 450) rfl ?_)
  refine r_aload_n hX dL_law_450 rfl ⟨_, rfl⟩ (RR.pc (b := 451) rfl ?_)
  refine r_arg (i := i) (j := 1) hX hB hL rfl rfl hi (by decide) rfl dL_law_451 dL_law_452 dL_law_453 dL_law_454 dL_law_455 (RR.pc (b := 456) rfl ?_)
  refine r_arg (i := i) (j := 2) hX hB hL rfl rfl hi (by decide) rfl dL_law_456 dL_law_457 dL_law_458 dL_law_459 dL_law_460 (RR.pc (b := 461) rfl ?_)
  refine r_callVi hX dL_law_461 ml_L_43 cd_X8_yard iv_X8_yard (hc2 r s hp) (by decide) rfl rfl rfl rfl rfl (Nat.le_of_ble_eq_true rfl) (fun r' s' hq => RR.pc (b := 464) rfl ?_)
  exact r_icmp_eq (tgt := 1388) hX dL_law_464 rfl (fun _ => kk s' hq.2) (fun z => absurd hq.1.symm z)
theorem lw_sweep (hX : Fx X G RL cL_law 4 200) (hB : SB X G b L xs) (hL : L ≤ 3072) (hi : i + 6 ≤ L) (hR : Rel σ) (kk : ∀ σ', Rel σ' → RR X G 4 1388 (lvL G b i) [] σ') : RR X G 4 469 (lvL G b i) [] σ := by
  obtain ⟨P, hc1, hc2⟩ := p_sweep (G := G) (y := xs (i + 1)) hR
  refine r_aload_n hX dL_law_469 rfl ⟨_, rfl⟩ (RR.pc (b := 470) rfl ?_)
  refine r_arg (i := i) (j := 1) hX hB hL rfl rfl hi (by decide) rfl dL_law_470 dL_law_471 dL_law_472 dL_law_473 dL_law_474 (RR.pc (b := 475) rfl ?_)
  refine r_callVi hX dL_law_475 ml_L_44 cd_X7_sweep iv_X7_sweep hc1 (by decide) rfl rfl rfl rfl rfl (Nat.le_of_ble_eq_true rfl) (fun r s hp => RR.pc (b := 478) rfl ?_)
  refine r_aload_n hX dL_law_478 rfl ⟨_, rfl⟩ (RR.pc (b := 479) rfl ?_)
  refine r_arg (i := i) (j := 1) hX hB hL rfl rfl hi (by decide) rfl dL_law_479 dL_law_480 dL_law_481 dL_law_482 dL_law_483 (RR.pc (b := 484) rfl ?_)
  refine r_callVi hX dL_law_484 ml_L_48 cd_X8_sweep iv_X8_sweep (hc2 r s hp) (by decide) rfl rfl rfl rfl rfl (Nat.le_of_ble_eq_true rfl) (fun r' s' hq => RR.pc (b := 487) rfl ?_)
  exact r_icmp_eq (tgt := 1388) hX dL_law_487 rfl (fun _ => kk s' hq.2) (fun z => absurd hq.1.symm z)
theorem lw_rain (hX : Fx X G RL cL_law 4 200) (hB : SB X G b L xs) (hL : L ≤ 3072) (hi : i + 6 ≤ L) (hR : Rel σ) (kk : ∀ σ', Rel σ' → RR X G 4 1388 (lvL G b i) [] σ') : RR X G 4 492 (lvL G b i) [] σ := by
  obtain ⟨P, hc1, hc2⟩ := p_rain (G := G)  hR
  refine r_aload_n hX dL_law_492 rfl ⟨_, rfl⟩ (RR.pc (b := 493) rfl ?_)
  refine r_callVi hX dL_law_493 ml_L_49 cd_X7_rain iv_X7_rain hc1 (by decide) rfl rfl rfl rfl rfl (Nat.le_of_ble_eq_true rfl) (fun r s hp => RR.pc (b := 496) rfl ?_)
  refine r_aload_n hX dL_law_496 rfl ⟨_, rfl⟩ (RR.pc (b := 497) rfl ?_)
  refine r_callVi hX dL_law_497 ml_L_53 cd_X8_rain iv_X8_rain (hc2 r s hp) (by decide) rfl rfl rfl rfl rfl (Nat.le_of_ble_eq_true rfl) (fun r' s' hq => RR.pc (b := 500) rfl ?_)
  exact r_icmp_eq (tgt := 1388) hX dL_law_500 rfl (fun _ => kk s' hq.2) (fun z => absurd hq.1.symm z)
theorem lw_deal (hX : Fx X G RL cL_law 4 200) (hB : SB X G b L xs) (hL : L ≤ 3072) (hi : i + 6 ≤ L) (hR : Rel σ) (kk : ∀ σ', Rel σ' → RR X G 4 1388 (lvL G b i) [] σ') : RR X G 4 505 (lvL G b i) [] σ := by
  obtain ⟨P, hc1, hc2⟩ := p_deal (G := G) (q := xs (i + 1)) hR
  refine r_aload_n hX dL_law_505 rfl ⟨_, rfl⟩ (RR.pc (b := 506) rfl ?_)
  refine r_arg (i := i) (j := 1) hX hB hL rfl rfl hi (by decide) rfl dL_law_506 dL_law_507 dL_law_508 dL_law_509 dL_law_510 (RR.pc (b := 511) rfl ?_)
  refine r_callVi hX dL_law_511 ml_L_54 cd_X7_deal iv_X7_deal hc1 (by decide) rfl rfl rfl rfl rfl (Nat.le_of_ble_eq_true rfl) (fun r s hp => RR.pc (b := 514) rfl ?_)
  refine r_aload_n hX dL_law_514 rfl ⟨_, rfl⟩ (RR.pc (b := 515) rfl ?_)
  refine r_arg (i := i) (j := 1) hX hB hL rfl rfl hi (by decide) rfl dL_law_515 dL_law_516 dL_law_517 dL_law_518 dL_law_519 (RR.pc (b := 520) rfl ?_)
  refine r_callVi hX dL_law_520 ml_L_57 cd_X8_deal iv_X8_deal (hc2 r s hp) (by decide) rfl rfl rfl rfl rfl (Nat.le_of_ble_eq_true rfl) (fun r' s' hq => RR.pc (b := 523) rfl ?_)
  exact r_icmp_eq (tgt := 1388) hX dL_law_523 rfl (fun _ => kk s' hq.2) (fun z => absurd hq.1.symm z)
theorem lw_seed (hX : Fx X G RL cL_law 4 200) (hB : SB X G b L xs) (hL : L ≤ 3072) (hi : i + 6 ≤ L) (hR : Rel σ) (kk : ∀ σ', Rel σ' → RR X G 4 1388 (lvL G b i) [] σ') : RR X G 4 528 (lvL G b i) [] σ := by
  obtain ⟨P, hc1, hc2⟩ := p_seed (G := G) (v := xs (i + 1)) hR
  refine r_aload_n hX dL_law_528 rfl ⟨_, rfl⟩ (RR.pc (b := 529) rfl ?_)
  refine r_arg (i := i) (j := 1) hX hB hL rfl rfl hi (by decide) rfl dL_law_529 dL_law_530 dL_law_531 dL_law_532 dL_law_533 (RR.pc (b := 534) rfl ?_)
  refine r_callVi hX dL_law_534 ml_L_58 cd_X7_seed iv_X7_seed hc1 (by decide) rfl rfl rfl rfl rfl (Nat.le_of_ble_eq_true rfl) (fun r s hp => RR.pc (b := 537) rfl ?_)
  refine r_aload_n hX dL_law_537 rfl ⟨_, rfl⟩ (RR.pc (b := 538) rfl ?_)
  refine r_arg (i := i) (j := 1) hX hB hL rfl rfl hi (by decide) rfl dL_law_538 dL_law_539 dL_law_540 dL_law_541 dL_law_542 (RR.pc (b := 543) rfl ?_)
  refine r_callVi hX dL_law_543 ml_L_61 cd_X8_seed iv_X8_seed (hc2 r s hp) (by decide) rfl rfl rfl rfl rfl (Nat.le_of_ble_eq_true rfl) (fun r' s' hq => RR.pc (b := 546) rfl ?_)
  exact r_icmp_eq (tgt := 1388) hX dL_law_546 rfl (fun _ => kk s' hq.2) (fun z => absurd hq.1.symm z)
theorem lw_minutes (hX : Fx X G RL cL_law 4 200) (hB : SB X G b L xs) (hL : L ≤ 3072) (hi : i + 6 ≤ L) (hR : Rel σ) (kk : ∀ σ', Rel σ' → RR X G 4 1388 (lvL G b i) [] σ') : RR X G 4 551 (lvL G b i) [] σ := by
  obtain ⟨P, hc1, hc2⟩ := p_minutes (G := G) (q := xs (i + 1)) hR
  refine r_aload_n hX dL_law_551 rfl ⟨_, rfl⟩ (RR.pc (b := 552) rfl ?_)
  refine r_arg (i := i) (j := 1) hX hB hL rfl rfl hi (by decide) rfl dL_law_552 dL_law_553 dL_law_554 dL_law_555 dL_law_556 (RR.pc (b := 557) rfl ?_)
  refine r_callVi hX dL_law_557 ml_L_62 cd_X7_minutes iv_X7_minutes hc1 (by decide) rfl rfl rfl rfl rfl (Nat.le_of_ble_eq_true rfl) (fun r s hp => RR.pc (b := 560) rfl ?_)
  refine r_aload_n hX dL_law_560 rfl ⟨_, rfl⟩ (RR.pc (b := 561) rfl ?_)
  refine r_arg (i := i) (j := 1) hX hB hL rfl rfl hi (by decide) rfl dL_law_561 dL_law_562 dL_law_563 dL_law_564 dL_law_565 (RR.pc (b := 566) rfl ?_)
  refine r_callVi hX dL_law_566 ml_L_65 cd_X8_minutes iv_X8_minutes (hc2 r s hp) (by decide) rfl rfl rfl rfl rfl (Nat.le_of_ble_eq_true rfl) (fun r' s' hq => RR.pc (b := 569) rfl ?_)
  exact r_icmp_eq (tgt := 1388) hX dL_law_569 rfl (fun _ => kk s' hq.2) (fun z => absurd hq.1.symm z)
theorem lw_way (hX : Fx X G RL cL_law 4 200) (hB : SB X G b L xs) (hL : L ≤ 3072) (hi : i + 6 ≤ L) (hR : Rel σ) (kk : ∀ σ', Rel σ' → RR X G 4 1388 (lvL G b i) [] σ') : RR X G 4 574 (lvL G b i) [] σ := by
  obtain ⟨P, hc1, hc2⟩ := p_way (G := G) (what := xs (i + 1)) hR
  refine r_aload_n hX dL_law_574 rfl ⟨_, rfl⟩ (RR.pc (b := 575) rfl ?_)
  refine r_arg (i := i) (j := 1) hX hB hL rfl rfl hi (by decide) rfl dL_law_575 dL_law_576 dL_law_577 dL_law_578 dL_law_579 (RR.pc (b := 580) rfl ?_)
  refine r_callVi hX dL_law_580 ml_L_66 cd_X7_way iv_X7_way hc1 (by decide) rfl rfl rfl rfl rfl (Nat.le_of_ble_eq_true rfl) (fun r s hp => RR.pc (b := 583) rfl ?_)
  refine r_aload_n hX dL_law_583 rfl ⟨_, rfl⟩ (RR.pc (b := 584) rfl ?_)
  refine r_arg (i := i) (j := 1) hX hB hL rfl rfl hi (by decide) rfl dL_law_584 dL_law_585 dL_law_586 dL_law_587 dL_law_588 (RR.pc (b := 589) rfl ?_)
  refine r_callVi hX dL_law_589 ml_L_69 cd_X8_way iv_X8_way (hc2 r s hp) (by decide) rfl rfl rfl rfl rfl (Nat.le_of_ble_eq_true rfl) (fun r' s' hq => RR.pc (b := 592) rfl ?_)
  exact r_icmp_eq (tgt := 1388) hX dL_law_592 rfl (fun _ => kk s' hq.2) (fun z => absurd hq.1.symm z)
theorem lw_behind (hX : Fx X G RL cL_law 4 200) (hB : SB X G b L xs) (hL : L ≤ 3072) (hi : i + 6 ≤ L) (hR : Rel σ) (kk : ∀ σ', Rel σ' → RR X G 4 1388 (lvL G b i) [] σ') : RR X G 4 597 (lvL G b i) [] σ := by
  obtain ⟨P, hc1, hc2⟩ := p_behind (G := G) (q := xs (i + 1)) (what := xs (i + 2)) hR
  refine r_aload_n hX dL_law_597 rfl ⟨_, rfl⟩ (RR.pc (b := 598) rfl ?_)
  refine r_arg (i := i) (j := 1) hX hB hL rfl rfl hi (by decide) rfl dL_law_598 dL_law_599 dL_law_600 dL_law_601 dL_law_602 (RR.pc (b := 603) rfl ?_)
  refine r_arg (i := i) (j := 2) hX hB hL rfl rfl hi (by decide) rfl dL_law_603 dL_law_604 dL_law_605 dL_law_606 dL_law_607 (RR.pc (b := 608) rfl ?_)
  refine r_callVi hX dL_law_608 ml_L_70 cd_X7_behind iv_X7_behind hc1 (by decide) rfl rfl rfl rfl rfl (Nat.le_of_ble_eq_true rfl) (fun r s hp => RR.pc (b := 611) rfl ?_)
  refine r_aload_n hX dL_law_611 rfl ⟨_, rfl⟩ (RR.pc (b := 612) rfl ?_)
  refine r_arg (i := i) (j := 1) hX hB hL rfl rfl hi (by decide) rfl dL_law_612 dL_law_613 dL_law_614 dL_law_615 dL_law_616 (RR.pc (b := 617) rfl ?_)
  refine r_arg (i := i) (j := 2) hX hB hL rfl rfl hi (by decide) rfl dL_law_617 dL_law_618 dL_law_619 dL_law_620 dL_law_621 (RR.pc (b := 622) rfl ?_)
  refine r_callVi hX dL_law_622 ml_L_73 cd_X8_behind iv_X8_behind (hc2 r s hp) (by decide) rfl rfl rfl rfl rfl (Nat.le_of_ble_eq_true rfl) (fun r' s' hq => RR.pc (b := 625) rfl ?_)
  exact r_icmp_eq (tgt := 1388) hX dL_law_625 rfl (fun _ => kk s' hq.2) (fun z => absurd hq.1.symm z)
theorem lw_empty (hX : Fx X G RL cL_law 4 200) (hB : SB X G b L xs) (hL : L ≤ 3072) (hi : i + 6 ≤ L) (hR : Rel σ) (kk : ∀ σ', Rel σ' → RR X G 4 1388 (lvL G b i) [] σ') : RR X G 4 630 (lvL G b i) [] σ := by
  obtain ⟨P, hc1, hc2⟩ := p_empty (G := G)  hR
  refine r_aload_n hX dL_law_630 rfl ⟨_, rfl⟩ (RR.pc (b := 631) rfl ?_)
  refine r_callVi hX dL_law_631 ml_L_74 cd_X7_empty iv_X7_empty hc1 (by decide) rfl rfl rfl rfl rfl (Nat.le_of_ble_eq_true rfl) (fun r s hp => RR.pc (b := 634) rfl ?_)
  refine r_aload_n hX dL_law_634 rfl ⟨_, rfl⟩ (RR.pc (b := 635) rfl ?_)
  refine r_callVi hX dL_law_635 ml_L_77 cd_X8_empty iv_X8_empty (hc2 r s hp) (by decide) rfl rfl rfl rfl rfl (Nat.le_of_ble_eq_true rfl) (fun r' s' hq => RR.pc (b := 638) rfl ?_)
  exact r_icmp_eq (tgt := 1388) hX dL_law_638 rfl (fun _ => kk s' hq.2) (fun z => absurd hq.1.symm z)
theorem lw_thickest (hX : Fx X G RL cL_law 4 200) (hB : SB X G b L xs) (hL : L ≤ 3072) (hi : i + 6 ≤ L) (hR : Rel σ) (kk : ∀ σ', Rel σ' → RR X G 4 1388 (lvL G b i) [] σ') : RR X G 4 643 (lvL G b i) [] σ := by
  obtain ⟨P, hc1, hc2⟩ := p_thickest (G := G) (q := xs (i + 1)) (what := xs (i + 2)) hR
  refine r_aload_n hX dL_law_643 rfl ⟨_, rfl⟩ (RR.pc (b := 644) rfl ?_)
  refine r_arg (i := i) (j := 1) hX hB hL rfl rfl hi (by decide) rfl dL_law_644 dL_law_645 dL_law_646 dL_law_647 dL_law_648 (RR.pc (b := 649) rfl ?_)
  refine r_arg (i := i) (j := 2) hX hB hL rfl rfl hi (by decide) rfl dL_law_649 dL_law_650 dL_law_651 dL_law_652 dL_law_653 (RR.pc (b := 654) rfl ?_)
  refine r_callVi hX dL_law_654 ml_L_78 cd_X7_thickest iv_X7_thickest hc1 (by decide) rfl rfl rfl rfl rfl (Nat.le_of_ble_eq_true rfl) (fun r s hp => RR.pc (b := 657) rfl ?_)
  refine r_aload_n hX dL_law_657 rfl ⟨_, rfl⟩ (RR.pc (b := 658) rfl ?_)
  refine r_arg (i := i) (j := 1) hX hB hL rfl rfl hi (by decide) rfl dL_law_658 dL_law_659 dL_law_660 dL_law_661 dL_law_662 (RR.pc (b := 663) rfl ?_)
  refine r_arg (i := i) (j := 2) hX hB hL rfl rfl hi (by decide) rfl dL_law_663 dL_law_664 dL_law_665 dL_law_666 dL_law_667 (RR.pc (b := 668) rfl ?_)
  refine r_callVi hX dL_law_668 ml_L_81 cd_X8_thickest iv_X8_thickest (hc2 r s hp) (by decide) rfl rfl rfl rfl rfl (Nat.le_of_ble_eq_true rfl) (fun r' s' hq => RR.pc (b := 671) rfl ?_)
  exact r_icmp_eq (tgt := 1388) hX dL_law_671 rfl (fun _ => kk s' hq.2) (fun z => absurd hq.1.symm z)
theorem lw_patch (hX : Fx X G RL cL_law 4 200) (hB : SB X G b L xs) (hL : L ≤ 3072) (hi : i + 6 ≤ L) (hR : Rel σ) (kk : ∀ σ', Rel σ' → RR X G 4 1388 (lvL G b i) [] σ') : RR X G 4 676 (lvL G b i) [] σ := by
  obtain ⟨P, hc1, hc2⟩ := p_patch (G := G) (q := xs (i + 1)) (what := xs (i + 2)) hR
  refine r_aload_n hX dL_law_676 rfl ⟨_, rfl⟩ (RR.pc (b := 677) rfl ?_)
  refine r_arg (i := i) (j := 1) hX hB hL rfl rfl hi (by decide) rfl dL_law_677 dL_law_678 dL_law_679 dL_law_680 dL_law_681 (RR.pc (b := 682) rfl ?_)
  refine r_arg (i := i) (j := 2) hX hB hL rfl rfl hi (by decide) rfl dL_law_682 dL_law_683 dL_law_684 dL_law_685 dL_law_686 (RR.pc (b := 687) rfl ?_)
  refine r_callVi hX dL_law_687 ml_L_82 cd_X7_patch iv_X7_patch hc1 (by decide) rfl rfl rfl rfl rfl (Nat.le_of_ble_eq_true rfl) (fun r s hp => RR.pc (b := 690) rfl ?_)
  refine r_aload_n hX dL_law_690 rfl ⟨_, rfl⟩ (RR.pc (b := 691) rfl ?_)
  refine r_arg (i := i) (j := 1) hX hB hL rfl rfl hi (by decide) rfl dL_law_691 dL_law_692 dL_law_693 dL_law_694 dL_law_695 (RR.pc (b := 696) rfl ?_)
  refine r_arg (i := i) (j := 2) hX hB hL rfl rfl hi (by decide) rfl dL_law_696 dL_law_697 dL_law_698 dL_law_699 dL_law_700 (RR.pc (b := 701) rfl ?_)
  refine r_callVi hX dL_law_701 ml_L_85 cd_X8_patch iv_X8_patch (hc2 r s hp) (by decide) rfl rfl rfl rfl rfl (Nat.le_of_ble_eq_true rfl) (fun r' s' hq => RR.pc (b := 704) rfl ?_)
  exact r_icmp_eq (tgt := 1388) hX dL_law_704 rfl (fun _ => kk s' hq.2) (fun z => absurd hq.1.symm z)
theorem lw_pan (hX : Fx X G RL cL_law 4 200) (hB : SB X G b L xs) (hL : L ≤ 3072) (hi : i + 6 ≤ L) (hR : Rel σ) (kk : ∀ σ', Rel σ' → RR X G 4 1388 (lvL G b i) [] σ') : RR X G 4 709 (lvL G b i) [] σ := by
  obtain ⟨P, hc1, hc2⟩ := p_pan (G := G) (p := xs (i + 1)) (q := xs (i + 2)) hR
  refine r_aload_n hX dL_law_709 rfl ⟨_, rfl⟩ (RR.pc (b := 710) rfl ?_)
  refine r_arg (i := i) (j := 1) hX hB hL rfl rfl hi (by decide) rfl dL_law_710 dL_law_711 dL_law_712 dL_law_713 dL_law_714 (RR.pc (b := 715) rfl ?_)
  refine r_arg (i := i) (j := 2) hX hB hL rfl rfl hi (by decide) rfl dL_law_715 dL_law_716 dL_law_717 dL_law_718 dL_law_719 (RR.pc (b := 720) rfl ?_)
  refine r_callVi hX dL_law_720 ml_L_86 cd_X7_pan iv_X7_pan hc1 (by decide) rfl rfl rfl rfl rfl (Nat.le_of_ble_eq_true rfl) (fun r s hp => RR.pc (b := 723) rfl ?_)
  refine r_aload_n hX dL_law_723 rfl ⟨_, rfl⟩ (RR.pc (b := 724) rfl ?_)
  refine r_arg (i := i) (j := 1) hX hB hL rfl rfl hi (by decide) rfl dL_law_724 dL_law_725 dL_law_726 dL_law_727 dL_law_728 (RR.pc (b := 729) rfl ?_)
  refine r_arg (i := i) (j := 2) hX hB hL rfl rfl hi (by decide) rfl dL_law_729 dL_law_730 dL_law_731 dL_law_732 dL_law_733 (RR.pc (b := 734) rfl ?_)
  refine r_callVi hX dL_law_734 ml_L_89 cd_X8_pan iv_X8_pan (hc2 r s hp) (by decide) rfl rfl rfl rfl rfl (Nat.le_of_ble_eq_true rfl) (fun r' s' hq => RR.pc (b := 737) rfl ?_)
  exact r_icmp_eq (tgt := 1388) hX dL_law_737 rfl (fun _ => kk s' hq.2) (fun z => absurd hq.1.symm z)
theorem lw_whose (hX : Fx X G RL cL_law 4 200) (hB : SB X G b L xs) (hL : L ≤ 3072) (hi : i + 6 ≤ L) (hR : Rel σ) (kk : ∀ σ', Rel σ' → RR X G 4 1388 (lvL G b i) [] σ') : RR X G 4 742 (lvL G b i) [] σ := by
  obtain ⟨P, hc1, hc2⟩ := p_whose (G := G) (sheet := xs (i + 1)) (q := xs (i + 2)) (what := xs (i + 3)) hR
  refine r_aload_n hX dL_law_742 rfl ⟨_, rfl⟩ (RR.pc (b := 743) rfl ?_)
  refine r_arg (i := i) (j := 1) hX hB hL rfl rfl hi (by decide) rfl dL_law_743 dL_law_744 dL_law_745 dL_law_746 dL_law_747 (RR.pc (b := 748) rfl ?_)
  refine r_arg (i := i) (j := 2) hX hB hL rfl rfl hi (by decide) rfl dL_law_748 dL_law_749 dL_law_750 dL_law_751 dL_law_752 (RR.pc (b := 753) rfl ?_)
  refine r_arg (i := i) (j := 3) hX hB hL rfl rfl hi (by decide) rfl dL_law_753 dL_law_754 dL_law_755 dL_law_756 dL_law_757 (RR.pc (b := 758) rfl ?_)
  refine r_callVi hX dL_law_758 ml_L_90 cd_X7_whose iv_X7_whose hc1 (by decide) rfl rfl rfl rfl rfl (Nat.le_of_ble_eq_true rfl) (fun r s hp => RR.pc (b := 761) rfl ?_)
  refine r_aload_n hX dL_law_761 rfl ⟨_, rfl⟩ (RR.pc (b := 762) rfl ?_)
  refine r_arg (i := i) (j := 1) hX hB hL rfl rfl hi (by decide) rfl dL_law_762 dL_law_763 dL_law_764 dL_law_765 dL_law_766 (RR.pc (b := 767) rfl ?_)
  refine r_arg (i := i) (j := 2) hX hB hL rfl rfl hi (by decide) rfl dL_law_767 dL_law_768 dL_law_769 dL_law_770 dL_law_771 (RR.pc (b := 772) rfl ?_)
  refine r_arg (i := i) (j := 3) hX hB hL rfl rfl hi (by decide) rfl dL_law_772 dL_law_773 dL_law_774 dL_law_775 dL_law_776 (RR.pc (b := 777) rfl ?_)
  refine r_callVi hX dL_law_777 ml_L_93 cd_X8_whose iv_X8_whose (hc2 r s hp) (by decide) rfl rfl rfl rfl rfl (Nat.le_of_ble_eq_true rfl) (fun r' s' hq => RR.pc (b := 780) rfl ?_)
  exact r_icmp_eq (tgt := 1388) hX dL_law_780 rfl (fun _ => kk s' hq.2) (fun z => absurd hq.1.symm z)
theorem lw_fee (hX : Fx X G RL cL_law 4 200) (hB : SB X G b L xs) (hL : L ≤ 3072) (hi : i + 6 ≤ L) (hR : Rel σ) (kk : ∀ σ', Rel σ' → RR X G 4 1388 (lvL G b i) [] σ') : RR X G 4 785 (lvL G b i) [] σ := by
  obtain ⟨P, hc1, hc2⟩ := p_fee (G := G)  hR
  refine r_aload_n hX dL_law_785 rfl ⟨_, rfl⟩ (RR.pc (b := 786) rfl ?_)
  refine r_callVi hX dL_law_786 ml_L_94 cd_X7_fee iv_X7_fee hc1 (by decide) rfl rfl rfl rfl rfl (Nat.le_of_ble_eq_true rfl) (fun r s hp => RR.pc (b := 789) rfl ?_)
  refine r_aload_n hX dL_law_789 rfl ⟨_, rfl⟩ (RR.pc (b := 790) rfl ?_)
  refine r_callVi hX dL_law_790 ml_L_97 cd_X8_fee iv_X8_fee (hc2 r s hp) (by decide) rfl rfl rfl rfl rfl (Nat.le_of_ble_eq_true rfl) (fun r' s' hq => RR.pc (b := 793) rfl ?_)
  exact r_icmp_eq (tgt := 1388) hX dL_law_793 rfl (fun _ => kk s' hq.2) (fun z => absurd hq.1.symm z)
theorem lw_fine (hX : Fx X G RL cL_law 4 200) (hB : SB X G b L xs) (hL : L ≤ 3072) (hi : i + 6 ≤ L) (hR : Rel σ) (kk : ∀ σ', Rel σ' → RR X G 4 1388 (lvL G b i) [] σ') : RR X G 4 798 (lvL G b i) [] σ := by
  obtain ⟨P, hc1, hc2⟩ := p_fine (G := G) (k := xs (i + 1)) hR
  refine r_aload_n hX dL_law_798 rfl ⟨_, rfl⟩ (RR.pc (b := 799) rfl ?_)
  refine r_arg (i := i) (j := 1) hX hB hL rfl rfl hi (by decide) rfl dL_law_799 dL_law_800 dL_law_801 dL_law_802 dL_law_803 (RR.pc (b := 804) rfl ?_)
  refine r_callVi hX dL_law_804 ml_L_98 cd_X7_fine iv_X7_fine hc1 (by decide) rfl rfl rfl rfl rfl (Nat.le_of_ble_eq_true rfl) (fun r s hp => RR.pc (b := 807) rfl ?_)
  refine r_aload_n hX dL_law_807 rfl ⟨_, rfl⟩ (RR.pc (b := 808) rfl ?_)
  refine r_arg (i := i) (j := 1) hX hB hL rfl rfl hi (by decide) rfl dL_law_808 dL_law_809 dL_law_810 dL_law_811 dL_law_812 (RR.pc (b := 813) rfl ?_)
  refine r_callVi hX dL_law_813 ml_L_101 cd_X8_fine iv_X8_fine (hc2 r s hp) (by decide) rfl rfl rfl rfl rfl (Nat.le_of_ble_eq_true rfl) (fun r' s' hq => RR.pc (b := 816) rfl ?_)
  exact r_icmp_eq (tgt := 1388) hX dL_law_816 rfl (fun _ => kk s' hq.2) (fun z => absurd hq.1.symm z)
theorem lw_feed (hX : Fx X G RL cL_law 4 200) (hB : SB X G b L xs) (hL : L ≤ 3072) (hi : i + 6 ≤ L) (hR : Rel σ) (kk : ∀ σ', Rel σ' → RR X G 4 1388 (lvL G b i) [] σ') : RR X G 4 821 (lvL G b i) [] σ := by
  obtain ⟨P, hc1, hc2⟩ := p_feed (G := G) (a := xs (i + 1)) (b := xs (i + 2)) (c := xs (i + 3)) hR
  refine r_aload_n hX dL_law_821 rfl ⟨_, rfl⟩ (RR.pc (b := 822) rfl ?_)
  refine r_arg (i := i) (j := 1) hX hB hL rfl rfl hi (by decide) rfl dL_law_822 dL_law_823 dL_law_824 dL_law_825 dL_law_826 (RR.pc (b := 827) rfl ?_)
  refine r_arg (i := i) (j := 2) hX hB hL rfl rfl hi (by decide) rfl dL_law_827 dL_law_828 dL_law_829 dL_law_830 dL_law_831 (RR.pc (b := 832) rfl ?_)
  refine r_arg (i := i) (j := 3) hX hB hL rfl rfl hi (by decide) rfl dL_law_832 dL_law_833 dL_law_834 dL_law_835 dL_law_836 (RR.pc (b := 837) rfl ?_)
  refine r_callVi hX dL_law_837 ml_L_102 cd_X7_feed iv_X7_feed hc1 (by decide) rfl rfl rfl rfl rfl (Nat.le_of_ble_eq_true rfl) (fun r s hp => RR.pc (b := 840) rfl ?_)
  refine r_aload_n hX dL_law_840 rfl ⟨_, rfl⟩ (RR.pc (b := 841) rfl ?_)
  refine r_arg (i := i) (j := 1) hX hB hL rfl rfl hi (by decide) rfl dL_law_841 dL_law_842 dL_law_843 dL_law_844 dL_law_845 (RR.pc (b := 846) rfl ?_)
  refine r_arg (i := i) (j := 2) hX hB hL rfl rfl hi (by decide) rfl dL_law_846 dL_law_847 dL_law_848 dL_law_849 dL_law_850 (RR.pc (b := 851) rfl ?_)
  refine r_arg (i := i) (j := 3) hX hB hL rfl rfl hi (by decide) rfl dL_law_851 dL_law_852 dL_law_853 dL_law_854 dL_law_855 (RR.pc (b := 856) rfl ?_)
  refine r_callVi hX dL_law_856 ml_L_105 cd_X8_feed iv_X8_feed (hc2 r s hp) (by decide) rfl rfl rfl rfl rfl (Nat.le_of_ble_eq_true rfl) (fun r' s' hq => RR.pc (b := 859) rfl ?_)
  exact r_icmp_eq (tgt := 1388) hX dL_law_859 rfl (fun _ => kk s' hq.2) (fun z => absurd hq.1.symm z)
theorem lw_trim (hX : Fx X G RL cL_law 4 200) (hB : SB X G b L xs) (hL : L ≤ 3072) (hi : i + 6 ≤ L) (hR : Rel σ) (kk : ∀ σ', Rel σ' → RR X G 4 1388 (lvL G b i) [] σ') : RR X G 4 864 (lvL G b i) [] σ := by
  obtain ⟨P, hc1, hc2⟩ := p_trim (G := G) (v := xs (i + 1)) hR
  refine r_aload_n hX dL_law_864 rfl ⟨_, rfl⟩ (RR.pc (b := 865) rfl ?_)
  refine r_arg (i := i) (j := 1) hX hB hL rfl rfl hi (by decide) rfl dL_law_865 dL_law_866 dL_law_867 dL_law_868 dL_law_869 (RR.pc (b := 870) rfl ?_)
  refine r_callVi hX dL_law_870 ml_L_106 cd_X7_trim iv_X7_trim hc1 (by decide) rfl rfl rfl rfl rfl (Nat.le_of_ble_eq_true rfl) (fun r s hp => RR.pc (b := 873) rfl ?_)
  refine r_aload_n hX dL_law_873 rfl ⟨_, rfl⟩ (RR.pc (b := 874) rfl ?_)
  refine r_arg (i := i) (j := 1) hX hB hL rfl rfl hi (by decide) rfl dL_law_874 dL_law_875 dL_law_876 dL_law_877 dL_law_878 (RR.pc (b := 879) rfl ?_)
  refine r_callVi hX dL_law_879 ml_L_109 cd_X8_trim iv_X8_trim (hc2 r s hp) (by decide) rfl rfl rfl rfl rfl (Nat.le_of_ble_eq_true rfl) (fun r' s' hq => RR.pc (b := 882) rfl ?_)
  exact r_icmp_eq (tgt := 1388) hX dL_law_882 rfl (fun _ => kk s' hq.2) (fun z => absurd hq.1.symm z)
theorem lw_text (hX : Fx X G RL cL_law 4 200) (hB : SB X G b L xs) (hL : L ≤ 3072) (hi : i + 6 ≤ L) (hR : Rel σ) (kk : ∀ σ', Rel σ' → RR X G 4 1388 (lvL G b i) [] σ') : RR X G 4 887 (lvL G b i) [] σ := by
  obtain ⟨P, hc1, hc2⟩ := p_text (G := G)  hR
  refine r_aload_n hX dL_law_887 rfl ⟨_, rfl⟩ (RR.pc (b := 888) rfl ?_)
  refine r_callVi hX dL_law_888 ml_L_110 cd_X7_text iv_X7_text hc1 (by decide) rfl rfl rfl rfl rfl (Nat.le_of_ble_eq_true rfl) (fun r s hp => RR.pc (b := 891) rfl ?_)
  refine r_aload_n hX dL_law_891 rfl ⟨_, rfl⟩ (RR.pc (b := 892) rfl ?_)
  refine r_callVi hX dL_law_892 ml_L_113 cd_X8_text iv_X8_text (hc2 r s hp) (by decide) rfl rfl rfl rfl rfl (Nat.le_of_ble_eq_true rfl) (fun r' s' hq => RR.pc (b := 895) rfl ?_)
  exact r_icmp_eq (tgt := 1388) hX dL_law_895 rfl (fun _ => kk s' hq.2) (fun z => absurd hq.1.symm z)
theorem lw_textTold (hX : Fx X G RL cL_law 4 200) (hB : SB X G b L xs) (hL : L ≤ 3072) (hi : i + 6 ≤ L) (hR : Rel σ) (kk : ∀ σ', Rel σ' → RR X G 4 1388 (lvL G b i) [] σ') : RR X G 4 900 (lvL G b i) [] σ := by
  obtain ⟨P, hc1, hc2⟩ := p_textTold (G := G) (t := xs (i + 1)) (what := xs (i + 2)) hR
  refine r_aload_n hX dL_law_900 rfl ⟨_, rfl⟩ (RR.pc (b := 901) rfl ?_)
  refine r_arg (i := i) (j := 1) hX hB hL rfl rfl hi (by decide) rfl dL_law_901 dL_law_902 dL_law_903 dL_law_904 dL_law_905 (RR.pc (b := 906) rfl ?_)
  refine r_arg (i := i) (j := 2) hX hB hL rfl rfl hi (by decide) rfl dL_law_906 dL_law_907 dL_law_908 dL_law_909 dL_law_910 (RR.pc (b := 911) rfl ?_)
  refine r_callVi hX dL_law_911 ml_L_114 cd_X7_textTold iv_X7_textTold hc1 (by decide) rfl rfl rfl rfl rfl (Nat.le_of_ble_eq_true rfl) (fun r s hp => RR.pc (b := 914) rfl ?_)
  refine r_aload_n hX dL_law_914 rfl ⟨_, rfl⟩ (RR.pc (b := 915) rfl ?_)
  refine r_arg (i := i) (j := 1) hX hB hL rfl rfl hi (by decide) rfl dL_law_915 dL_law_916 dL_law_917 dL_law_918 dL_law_919 (RR.pc (b := 920) rfl ?_)
  refine r_arg (i := i) (j := 2) hX hB hL rfl rfl hi (by decide) rfl dL_law_920 dL_law_921 dL_law_922 dL_law_923 dL_law_924 (RR.pc (b := 925) rfl ?_)
  refine r_callVi hX dL_law_925 ml_L_117 cd_X8_textTold iv_X8_textTold (hc2 r s hp) (by decide) rfl rfl rfl rfl rfl (Nat.le_of_ble_eq_true rfl) (fun r' s' hq => RR.pc (b := 928) rfl ?_)
  exact r_icmp_eq (tgt := 1388) hX dL_law_928 rfl (fun _ => kk s' hq.2) (fun z => absurd hq.1.symm z)
theorem lw_why (hX : Fx X G RL cL_law 4 200) (hB : SB X G b L xs) (hL : L ≤ 3072) (hi : i + 6 ≤ L) (hR : Rel σ) (kk : ∀ σ', Rel σ' → RR X G 4 1388 (lvL G b i) [] σ') : RR X G 4 933 (lvL G b i) [] σ := by
  obtain ⟨P, hc1, hc2⟩ := p_why (G := G) (k := xs (i + 1)) hR
  refine r_aload_n hX dL_law_933 rfl ⟨_, rfl⟩ (RR.pc (b := 934) rfl ?_)
  refine r_arg (i := i) (j := 1) hX hB hL rfl rfl hi (by decide) rfl dL_law_934 dL_law_935 dL_law_936 dL_law_937 dL_law_938 (RR.pc (b := 939) rfl ?_)
  refine r_callVi hX dL_law_939 ml_L_118 cd_X7_why iv_X7_why hc1 (by decide) rfl rfl rfl rfl rfl (Nat.le_of_ble_eq_true rfl) (fun r s hp => RR.pc (b := 942) rfl ?_)
  refine r_aload_n hX dL_law_942 rfl ⟨_, rfl⟩ (RR.pc (b := 943) rfl ?_)
  refine r_arg (i := i) (j := 1) hX hB hL rfl rfl hi (by decide) rfl dL_law_943 dL_law_944 dL_law_945 dL_law_946 dL_law_947 (RR.pc (b := 948) rfl ?_)
  refine r_callVi hX dL_law_948 ml_L_121 cd_X8_why iv_X8_why (hc2 r s hp) (by decide) rfl rfl rfl rfl rfl (Nat.le_of_ble_eq_true rfl) (fun r' s' hq => RR.pc (b := 951) rfl ?_)
  exact r_icmp_eq (tgt := 1388) hX dL_law_951 rfl (fun _ => kk s' hq.2) (fun z => absurd hq.1.symm z)
theorem lw_sheet (hX : Fx X G RL cL_law 4 200) (hB : SB X G b L xs) (hL : L ≤ 3072) (hi : i + 6 ≤ L) (hR : Rel σ) (kk : ∀ σ', Rel σ' → RR X G 4 1388 (lvL G b i) [] σ') : RR X G 4 956 (lvL G b i) [] σ := by
  obtain ⟨P, hc1, hc2⟩ := p_sheet (G := G) (sheet := xs (i + 1)) (sort := xs (i + 2)) (num := xs (i + 3)) hR
  refine r_aload_n hX dL_law_956 rfl ⟨_, rfl⟩ (RR.pc (b := 957) rfl ?_)
  refine r_arg (i := i) (j := 1) hX hB hL rfl rfl hi (by decide) rfl dL_law_957 dL_law_958 dL_law_959 dL_law_960 dL_law_961 (RR.pc (b := 962) rfl ?_)
  refine r_arg (i := i) (j := 2) hX hB hL rfl rfl hi (by decide) rfl dL_law_962 dL_law_963 dL_law_964 dL_law_965 dL_law_966 (RR.pc (b := 967) rfl ?_)
  refine r_arg (i := i) (j := 3) hX hB hL rfl rfl hi (by decide) rfl dL_law_967 dL_law_968 dL_law_969 dL_law_970 dL_law_971 (RR.pc (b := 972) rfl ?_)
  refine r_callVi hX dL_law_972 ml_L_122 cd_X7_sheet iv_X7_sheet hc1 (by decide) rfl rfl rfl rfl rfl (Nat.le_of_ble_eq_true rfl) (fun r s hp => RR.pc (b := 975) rfl ?_)
  refine r_aload_n hX dL_law_975 rfl ⟨_, rfl⟩ (RR.pc (b := 976) rfl ?_)
  refine r_arg (i := i) (j := 1) hX hB hL rfl rfl hi (by decide) rfl dL_law_976 dL_law_977 dL_law_978 dL_law_979 dL_law_980 (RR.pc (b := 981) rfl ?_)
  refine r_arg (i := i) (j := 2) hX hB hL rfl rfl hi (by decide) rfl dL_law_981 dL_law_982 dL_law_983 dL_law_984 dL_law_985 (RR.pc (b := 986) rfl ?_)
  refine r_arg (i := i) (j := 3) hX hB hL rfl rfl hi (by decide) rfl dL_law_986 dL_law_987 dL_law_988 dL_law_989 dL_law_990 (RR.pc (b := 991) rfl ?_)
  refine r_callVi hX dL_law_991 ml_L_125 cd_X8_sheet iv_X8_sheet (hc2 r s hp) (by decide) rfl rfl rfl rfl rfl (Nat.le_of_ble_eq_true rfl) (fun r' s' hq => RR.pc (b := 994) rfl ?_)
  exact r_icmp_eq (tgt := 1388) hX dL_law_994 rfl (fun _ => kk s' hq.2) (fun z => absurd hq.1.symm z)
theorem lw_mark (hX : Fx X G RL cL_law 4 200) (hB : SB X G b L xs) (hL : L ≤ 3072) (hi : i + 6 ≤ L) (hR : Rel σ) (kk : ∀ σ', Rel σ' → RR X G 4 1388 (lvL G b i) [] σ') : RR X G 4 999 (lvL G b i) [] σ := by
  obtain ⟨P, hc1, hc2⟩ := p_mark (G := G) (sheet := xs (i + 1)) (place := xs (i + 2)) (v := xs (i + 3)) hR
  refine r_aload_n hX dL_law_999 rfl ⟨_, rfl⟩ (RR.pc (b := 1000) rfl ?_)
  refine r_arg (i := i) (j := 1) hX hB hL rfl rfl hi (by decide) rfl dL_law_1000 dL_law_1001 dL_law_1002 dL_law_1003 dL_law_1004 (RR.pc (b := 1005) rfl ?_)
  refine r_arg (i := i) (j := 2) hX hB hL rfl rfl hi (by decide) rfl dL_law_1005 dL_law_1006 dL_law_1007 dL_law_1008 dL_law_1009 (RR.pc (b := 1010) rfl ?_)
  refine r_arg (i := i) (j := 3) hX hB hL rfl rfl hi (by decide) rfl dL_law_1010 dL_law_1011 dL_law_1012 dL_law_1013 dL_law_1014 (RR.pc (b := 1015) rfl ?_)
  refine r_callVi hX dL_law_1015 ml_L_126 cd_X7_mark iv_X7_mark hc1 (by decide) rfl rfl rfl rfl rfl (Nat.le_of_ble_eq_true rfl) (fun r s hp => RR.pc (b := 1018) rfl ?_)
  refine r_aload_n hX dL_law_1018 rfl ⟨_, rfl⟩ (RR.pc (b := 1019) rfl ?_)
  refine r_arg (i := i) (j := 1) hX hB hL rfl rfl hi (by decide) rfl dL_law_1019 dL_law_1020 dL_law_1021 dL_law_1022 dL_law_1023 (RR.pc (b := 1024) rfl ?_)
  refine r_arg (i := i) (j := 2) hX hB hL rfl rfl hi (by decide) rfl dL_law_1024 dL_law_1025 dL_law_1026 dL_law_1027 dL_law_1028 (RR.pc (b := 1029) rfl ?_)
  refine r_arg (i := i) (j := 3) hX hB hL rfl rfl hi (by decide) rfl dL_law_1029 dL_law_1030 dL_law_1031 dL_law_1032 dL_law_1033 (RR.pc (b := 1034) rfl ?_)
  refine r_callVi hX dL_law_1034 ml_L_129 cd_X8_mark iv_X8_mark (hc2 r s hp) (by decide) rfl rfl rfl rfl rfl (Nat.le_of_ble_eq_true rfl) (fun r' s' hq => RR.pc (b := 1037) rfl ?_)
  exact r_icmp_eq (tgt := 1388) hX dL_law_1037 rfl (fun _ => kk s' hq.2) (fun z => absurd hq.1.symm z)
theorem lw_pour (hX : Fx X G RL cL_law 4 200) (hB : SB X G b L xs) (hL : L ≤ 3072) (hi : i + 6 ≤ L) (hR : Rel σ) (kk : ∀ σ', Rel σ' → RR X G 4 1388 (lvL G b i) [] σ') : RR X G 4 1042 (lvL G b i) [] σ := by
  obtain ⟨P, hc1, hc2⟩ := p_pour (G := G) (sheet := xs (i + 1)) hR
  refine r_aload_n hX dL_law_1042 rfl ⟨_, rfl⟩ (RR.pc (b := 1043) rfl ?_)
  refine r_arg (i := i) (j := 1) hX hB hL rfl rfl hi (by decide) rfl dL_law_1043 dL_law_1044 dL_law_1045 dL_law_1046 dL_law_1047 (RR.pc (b := 1048) rfl ?_)
  refine r_callVi hX dL_law_1048 ml_L_130 cd_X7_pour iv_X7_pour hc1 (by decide) rfl rfl rfl rfl rfl (Nat.le_of_ble_eq_true rfl) (fun r s hp => RR.pc (b := 1051) rfl ?_)
  refine r_aload_n hX dL_law_1051 rfl ⟨_, rfl⟩ (RR.pc (b := 1052) rfl ?_)
  refine r_arg (i := i) (j := 1) hX hB hL rfl rfl hi (by decide) rfl dL_law_1052 dL_law_1053 dL_law_1054 dL_law_1055 dL_law_1056 (RR.pc (b := 1057) rfl ?_)
  refine r_callVi hX dL_law_1057 ml_L_133 cd_X8_pour iv_X8_pour (hc2 r s hp) (by decide) rfl rfl rfl rfl rfl (Nat.le_of_ble_eq_true rfl) (fun r' s' hq => RR.pc (b := 1060) rfl ?_)
  exact r_icmp_eq (tgt := 1388) hX dL_law_1060 rfl (fun _ => kk s' hq.2) (fun z => absurd hq.1.symm z)
theorem lw_reads (hX : Fx X G RL cL_law 4 200) (hB : SB X G b L xs) (hL : L ≤ 3072) (hi : i + 6 ≤ L) (hR : Rel σ) (kk : ∀ σ', Rel σ' → RR X G 4 1388 (lvL G b i) [] σ') : RR X G 4 1065 (lvL G b i) [] σ := by
  obtain ⟨P, hc1, hc2⟩ := p_reads (G := G) (sheet := xs (i + 1)) hR
  refine r_aload_n hX dL_law_1065 rfl ⟨_, rfl⟩ (RR.pc (b := 1066) rfl ?_)
  refine r_arg (i := i) (j := 1) hX hB hL rfl rfl hi (by decide) rfl dL_law_1066 dL_law_1067 dL_law_1068 dL_law_1069 dL_law_1070 (RR.pc (b := 1071) rfl ?_)
  refine r_callVi hX dL_law_1071 ml_L_134 cd_X7_reads iv_X7_reads hc1 (by decide) rfl rfl rfl rfl rfl (Nat.le_of_ble_eq_true rfl) (fun r s hp => RR.pc (b := 1074) rfl ?_)
  refine r_aload_n hX dL_law_1074 rfl ⟨_, rfl⟩ (RR.pc (b := 1075) rfl ?_)
  refine r_arg (i := i) (j := 1) hX hB hL rfl rfl hi (by decide) rfl dL_law_1075 dL_law_1076 dL_law_1077 dL_law_1078 dL_law_1079 (RR.pc (b := 1080) rfl ?_)
  refine r_callVi hX dL_law_1080 ml_L_137 cd_X8_reads iv_X8_reads (hc2 r s hp) (by decide) rfl rfl rfl rfl rfl (Nat.le_of_ble_eq_true rfl) (fun r' s' hq => RR.pc (b := 1083) rfl ?_)
  exact r_icmp_eq (tgt := 1388) hX dL_law_1083 rfl (fun _ => kk s' hq.2) (fun z => absurd hq.1.symm z)
theorem lw_copy (hX : Fx X G RL cL_law 4 200) (hB : SB X G b L xs) (hL : L ≤ 3072) (hi : i + 6 ≤ L) (hR : Rel σ) (kk : ∀ σ', Rel σ' → RR X G 4 1388 (lvL G b i) [] σ') : RR X G 4 1088 (lvL G b i) [] σ := by
  obtain ⟨P, hc1, hc2⟩ := p_copy (G := G) (from_ := xs (i + 1)) (place := xs (i + 2)) (to_ := xs (i + 3)) (at_ := xs (i + 4)) (many := xs (i + 5)) hR
  refine r_aload_n hX dL_law_1088 rfl ⟨_, rfl⟩ (RR.pc (b := 1089) rfl ?_)
  refine r_arg (i := i) (j := 1) hX hB hL rfl rfl hi (by decide) rfl dL_law_1089 dL_law_1090 dL_law_1091 dL_law_1092 dL_law_1093 (RR.pc (b := 1094) rfl ?_)
  refine r_arg (i := i) (j := 2) hX hB hL rfl rfl hi (by decide) rfl dL_law_1094 dL_law_1095 dL_law_1096 dL_law_1097 dL_law_1098 (RR.pc (b := 1099) rfl ?_)
  refine r_arg (i := i) (j := 3) hX hB hL rfl rfl hi (by decide) rfl dL_law_1099 dL_law_1100 dL_law_1101 dL_law_1102 dL_law_1103 (RR.pc (b := 1104) rfl ?_)
  refine r_arg (i := i) (j := 4) hX hB hL rfl rfl hi (by decide) rfl dL_law_1104 dL_law_1105 dL_law_1106 dL_law_1107 dL_law_1108 (RR.pc (b := 1109) rfl ?_)
  refine r_arg (i := i) (j := 5) hX hB hL rfl rfl hi (by decide) rfl dL_law_1109 dL_law_1110 dL_law_1111 dL_law_1112 dL_law_1113 (RR.pc (b := 1114) rfl ?_)
  refine r_callVi hX dL_law_1114 ml_L_138 cd_X7_copy iv_X7_copy hc1 (by decide) rfl rfl rfl rfl rfl (Nat.le_of_ble_eq_true rfl) (fun r s hp => RR.pc (b := 1117) rfl ?_)
  refine r_aload_n hX dL_law_1117 rfl ⟨_, rfl⟩ (RR.pc (b := 1118) rfl ?_)
  refine r_arg (i := i) (j := 1) hX hB hL rfl rfl hi (by decide) rfl dL_law_1118 dL_law_1119 dL_law_1120 dL_law_1121 dL_law_1122 (RR.pc (b := 1123) rfl ?_)
  refine r_arg (i := i) (j := 2) hX hB hL rfl rfl hi (by decide) rfl dL_law_1123 dL_law_1124 dL_law_1125 dL_law_1126 dL_law_1127 (RR.pc (b := 1128) rfl ?_)
  refine r_arg (i := i) (j := 3) hX hB hL rfl rfl hi (by decide) rfl dL_law_1128 dL_law_1129 dL_law_1130 dL_law_1131 dL_law_1132 (RR.pc (b := 1133) rfl ?_)
  refine r_arg (i := i) (j := 4) hX hB hL rfl rfl hi (by decide) rfl dL_law_1133 dL_law_1134 dL_law_1135 dL_law_1136 dL_law_1137 (RR.pc (b := 1138) rfl ?_)
  refine r_arg (i := i) (j := 5) hX hB hL rfl rfl hi (by decide) rfl dL_law_1138 dL_law_1139 dL_law_1140 dL_law_1141 dL_law_1142 (RR.pc (b := 1143) rfl ?_)
  refine r_callVi hX dL_law_1143 ml_L_142 cd_X8_copy iv_X8_copy (hc2 r s hp) (by decide) rfl rfl rfl rfl rfl (Nat.le_of_ble_eq_true rfl) (fun r' s' hq => RR.pc (b := 1146) rfl ?_)
  exact r_icmp_eq (tgt := 1388) hX dL_law_1146 rfl (fun _ => kk s' hq.2) (fun z => absurd hq.1.symm z)
theorem lw_lay (hX : Fx X G RL cL_law 4 200) (hB : SB X G b L xs) (hL : L ≤ 3072) (hi : i + 6 ≤ L) (hR : Rel σ) (kk : ∀ σ', Rel σ' → RR X G 4 1388 (lvL G b i) [] σ') : RR X G 4 1151 (lvL G b i) [] σ := by
  obtain ⟨P, hc1, hc2⟩ := p_lay (G := G) (slot := xs (i + 1)) (thing := xs (i + 2)) (k := xs (i + 3)) hR
  refine r_aload_n hX dL_law_1151 rfl ⟨_, rfl⟩ (RR.pc (b := 1152) rfl ?_)
  refine r_arg (i := i) (j := 1) hX hB hL rfl rfl hi (by decide) rfl dL_law_1152 dL_law_1153 dL_law_1154 dL_law_1155 dL_law_1156 (RR.pc (b := 1157) rfl ?_)
  refine r_arg (i := i) (j := 2) hX hB hL rfl rfl hi (by decide) rfl dL_law_1157 dL_law_1158 dL_law_1159 dL_law_1160 dL_law_1161 (RR.pc (b := 1162) rfl ?_)
  refine r_arg (i := i) (j := 3) hX hB hL rfl rfl hi (by decide) rfl dL_law_1162 dL_law_1163 dL_law_1164 dL_law_1165 dL_law_1166 (RR.pc (b := 1167) rfl ?_)
  refine r_callVi hX dL_law_1167 ml_L_143 cd_X7_lay iv_X7_lay hc1 (by decide) rfl rfl rfl rfl rfl (Nat.le_of_ble_eq_true rfl) (fun r s hp => RR.pc (b := 1170) rfl ?_)
  refine r_aload_n hX dL_law_1170 rfl ⟨_, rfl⟩ (RR.pc (b := 1171) rfl ?_)
  refine r_arg (i := i) (j := 1) hX hB hL rfl rfl hi (by decide) rfl dL_law_1171 dL_law_1172 dL_law_1173 dL_law_1174 dL_law_1175 (RR.pc (b := 1176) rfl ?_)
  refine r_arg (i := i) (j := 2) hX hB hL rfl rfl hi (by decide) rfl dL_law_1176 dL_law_1177 dL_law_1178 dL_law_1179 dL_law_1180 (RR.pc (b := 1181) rfl ?_)
  refine r_arg (i := i) (j := 3) hX hB hL rfl rfl hi (by decide) rfl dL_law_1181 dL_law_1182 dL_law_1183 dL_law_1184 dL_law_1185 (RR.pc (b := 1186) rfl ?_)
  refine r_callVi hX dL_law_1186 ml_L_146 cd_X8_lay iv_X8_lay (hc2 r s hp) (by decide) rfl rfl rfl rfl rfl (Nat.le_of_ble_eq_true rfl) (fun r' s' hq => RR.pc (b := 1189) rfl ?_)
  exact r_icmp_eq (tgt := 1388) hX dL_law_1189 rfl (fun _ => kk s' hq.2) (fun z => absurd hq.1.symm z)
theorem lw_ask (hX : Fx X G RL cL_law 4 200) (hB : SB X G b L xs) (hL : L ≤ 3072) (hi : i + 6 ≤ L) (hR : Rel σ) (kk : ∀ σ', Rel σ' → RR X G 4 1388 (lvL G b i) [] σ') : RR X G 4 1194 (lvL G b i) [] σ := by
  obtain ⟨P, hc1, hc2⟩ := p_ask (G := G) (slot := xs (i + 1)) (kind := xs (i + 2)) hR
  refine r_aload_n hX dL_law_1194 rfl ⟨_, rfl⟩ (RR.pc (b := 1195) rfl ?_)
  refine r_arg (i := i) (j := 1) hX hB hL rfl rfl hi (by decide) rfl dL_law_1195 dL_law_1196 dL_law_1197 dL_law_1198 dL_law_1199 (RR.pc (b := 1200) rfl ?_)
  refine r_arg (i := i) (j := 2) hX hB hL rfl rfl hi (by decide) rfl dL_law_1200 dL_law_1201 dL_law_1202 dL_law_1203 dL_law_1204 (RR.pc (b := 1205) rfl ?_)
  refine r_callVi hX dL_law_1205 ml_L_147 cd_X7_ask iv_X7_ask hc1 (by decide) rfl rfl rfl rfl rfl (Nat.le_of_ble_eq_true rfl) (fun r s hp => RR.pc (b := 1208) rfl ?_)
  refine r_aload_n hX dL_law_1208 rfl ⟨_, rfl⟩ (RR.pc (b := 1209) rfl ?_)
  refine r_arg (i := i) (j := 1) hX hB hL rfl rfl hi (by decide) rfl dL_law_1209 dL_law_1210 dL_law_1211 dL_law_1212 dL_law_1213 (RR.pc (b := 1214) rfl ?_)
  refine r_arg (i := i) (j := 2) hX hB hL rfl rfl hi (by decide) rfl dL_law_1214 dL_law_1215 dL_law_1216 dL_law_1217 dL_law_1218 (RR.pc (b := 1219) rfl ?_)
  refine r_callVi hX dL_law_1219 ml_L_150 cd_X8_ask iv_X8_ask (hc2 r s hp) (by decide) rfl rfl rfl rfl rfl (Nat.le_of_ble_eq_true rfl) (fun r' s' hq => RR.pc (b := 1222) rfl ?_)
  exact r_icmp_eq (tgt := 1388) hX dL_law_1222 rfl (fun _ => kk s' hq.2) (fun z => absurd hq.1.symm z)
theorem lw_item (hX : Fx X G RL cL_law 4 200) (hB : SB X G b L xs) (hL : L ≤ 3072) (hi : i + 6 ≤ L) (hR : Rel σ) (kk : ∀ σ', Rel σ' → RR X G 4 1388 (lvL G b i) [] σ') : RR X G 4 1227 (lvL G b i) [] σ := by
  obtain ⟨P, hc1, hc2⟩ := p_item (G := G) (slot := xs (i + 1)) (place := xs (i + 2)) hR
  refine r_aload_n hX dL_law_1227 rfl ⟨_, rfl⟩ (RR.pc (b := 1228) rfl ?_)
  refine r_arg (i := i) (j := 1) hX hB hL rfl rfl hi (by decide) rfl dL_law_1228 dL_law_1229 dL_law_1230 dL_law_1231 dL_law_1232 (RR.pc (b := 1233) rfl ?_)
  refine r_arg (i := i) (j := 2) hX hB hL rfl rfl hi (by decide) rfl dL_law_1233 dL_law_1234 dL_law_1235 dL_law_1236 dL_law_1237 (RR.pc (b := 1238) rfl ?_)
  refine r_callVi hX dL_law_1238 ml_L_151 cd_X7_item iv_X7_item hc1 (by decide) rfl rfl rfl rfl rfl (Nat.le_of_ble_eq_true rfl) (fun r s hp => RR.pc (b := 1241) rfl ?_)
  refine r_aload_n hX dL_law_1241 rfl ⟨_, rfl⟩ (RR.pc (b := 1242) rfl ?_)
  refine r_arg (i := i) (j := 1) hX hB hL rfl rfl hi (by decide) rfl dL_law_1242 dL_law_1243 dL_law_1244 dL_law_1245 dL_law_1246 (RR.pc (b := 1247) rfl ?_)
  refine r_arg (i := i) (j := 2) hX hB hL rfl rfl hi (by decide) rfl dL_law_1247 dL_law_1248 dL_law_1249 dL_law_1250 dL_law_1251 (RR.pc (b := 1252) rfl ?_)
  refine r_callVi hX dL_law_1252 ml_L_154 cd_X8_item iv_X8_item (hc2 r s hp) (by decide) rfl rfl rfl rfl rfl (Nat.le_of_ble_eq_true rfl) (fun r' s' hq => RR.pc (b := 1255) rfl ?_)
  exact r_icmp_eq (tgt := 1388) hX dL_law_1255 rfl (fun _ => kk s' hq.2) (fun z => absurd hq.1.symm z)
theorem lw_rest (hX : Fx X G RL cL_law 4 200) (hB : SB X G b L xs) (hL : L ≤ 3072) (hi : i + 6 ≤ L) (hR : Rel σ) (kk : ∀ σ', Rel σ' → RR X G 4 1388 (lvL G b i) [] σ') : RR X G 4 1260 (lvL G b i) [] σ := by
  obtain ⟨P, hc1, hc2⟩ := p_rest (G := G) (slot := xs (i + 1)) (n := xs (i + 2)) hR
  refine r_aload_n hX dL_law_1260 rfl ⟨_, rfl⟩ (RR.pc (b := 1261) rfl ?_)
  refine r_arg (i := i) (j := 1) hX hB hL rfl rfl hi (by decide) rfl dL_law_1261 dL_law_1262 dL_law_1263 dL_law_1264 dL_law_1265 (RR.pc (b := 1266) rfl ?_)
  refine r_arg (i := i) (j := 2) hX hB hL rfl rfl hi (by decide) rfl dL_law_1266 dL_law_1267 dL_law_1268 dL_law_1269 dL_law_1270 (RR.pc (b := 1271) rfl ?_)
  refine r_callVi hX dL_law_1271 ml_L_155 cd_X7_rest iv_X7_rest hc1 (by decide) rfl rfl rfl rfl rfl (Nat.le_of_ble_eq_true rfl) (fun r s hp => RR.pc (b := 1274) rfl ?_)
  refine r_aload_n hX dL_law_1274 rfl ⟨_, rfl⟩ (RR.pc (b := 1275) rfl ?_)
  refine r_arg (i := i) (j := 1) hX hB hL rfl rfl hi (by decide) rfl dL_law_1275 dL_law_1276 dL_law_1277 dL_law_1278 dL_law_1279 (RR.pc (b := 1280) rfl ?_)
  refine r_arg (i := i) (j := 2) hX hB hL rfl rfl hi (by decide) rfl dL_law_1280 dL_law_1281 dL_law_1282 dL_law_1283 dL_law_1284 (RR.pc (b := 1285) rfl ?_)
  refine r_callVi hX dL_law_1285 ml_L_158 cd_X8_rest iv_X8_rest (hc2 r s hp) (by decide) rfl rfl rfl rfl rfl (Nat.le_of_ble_eq_true rfl) (fun r' s' hq => RR.pc (b := 1288) rfl ?_)
  exact r_icmp_eq (tgt := 1388) hX dL_law_1288 rfl (fun _ => kk s' hq.2) (fun z => absurd hq.1.symm z)
theorem lw_tell (hX : Fx X G RL cL_law 4 200) (hB : SB X G b L xs) (hL : L ≤ 3072) (hi : i + 6 ≤ L) (hR : Rel σ) (kk : ∀ σ', Rel σ' → RR X G 4 1388 (lvL G b i) [] σ') : RR X G 4 1293 (lvL G b i) [] σ := by
  obtain ⟨P, hc1, hc2⟩ := p_tell (G := G) (v := xs (i + 1)) hR
  refine r_aload_n hX dL_law_1293 rfl ⟨_, rfl⟩ (RR.pc (b := 1294) rfl ?_)
  refine r_arg (i := i) (j := 1) hX hB hL rfl rfl hi (by decide) rfl dL_law_1294 dL_law_1295 dL_law_1296 dL_law_1297 dL_law_1298 (RR.pc (b := 1299) rfl ?_)
  refine r_callVi hX dL_law_1299 ml_L_159 cd_X7_tell iv_X7_tell hc1 (by decide) rfl rfl rfl rfl rfl (Nat.le_of_ble_eq_true rfl) (fun r s hp => RR.pc (b := 1302) rfl ?_)
  refine r_aload_n hX dL_law_1302 rfl ⟨_, rfl⟩ (RR.pc (b := 1303) rfl ?_)
  refine r_arg (i := i) (j := 1) hX hB hL rfl rfl hi (by decide) rfl dL_law_1303 dL_law_1304 dL_law_1305 dL_law_1306 dL_law_1307 (RR.pc (b := 1308) rfl ?_)
  refine r_callVi hX dL_law_1308 ml_L_162 cd_X8_tell iv_X8_tell (hc2 r s hp) (by decide) rfl rfl rfl rfl rfl (Nat.le_of_ble_eq_true rfl) (fun r' s' hq => RR.pc (b := 1311) rfl ?_)
  exact r_icmp_eq (tgt := 1388) hX dL_law_1311 rfl (fun _ => kk s' hq.2) (fun z => absurd hq.1.symm z)
theorem lw_check (hX : Fx X G RL cL_law 4 200) (hB : SB X G b L xs) (hL : L ≤ 3072) (hi : i + 6 ≤ L) (hR : Rel σ) (kk : ∀ σ', Rel σ' → RR X G 4 1388 (lvL G b i) [] σ') : RR X G 4 1316 (lvL G b i) [] σ := by
  obtain ⟨P, hc1, hc2⟩ := p_check (G := G) (q := xs (i + 1)) hR
  refine r_aload_n hX dL_law_1316 rfl ⟨_, rfl⟩ (RR.pc (b := 1317) rfl ?_)
  refine r_arg (i := i) (j := 1) hX hB hL rfl rfl hi (by decide) rfl dL_law_1317 dL_law_1318 dL_law_1319 dL_law_1320 dL_law_1321 (RR.pc (b := 1322) rfl ?_)
  refine r_callVi hX dL_law_1322 ml_L_163 cd_X7_check iv_X7_check hc1 (by decide) rfl rfl rfl rfl rfl (Nat.le_of_ble_eq_true rfl) (fun r s hp => RR.pc (b := 1325) rfl ?_)
  refine r_aload_n hX dL_law_1325 rfl ⟨_, rfl⟩ (RR.pc (b := 1326) rfl ?_)
  refine r_arg (i := i) (j := 1) hX hB hL rfl rfl hi (by decide) rfl dL_law_1326 dL_law_1327 dL_law_1328 dL_law_1329 dL_law_1330 (RR.pc (b := 1331) rfl ?_)
  refine r_callVi hX dL_law_1331 ml_L_166 cd_X8_check iv_X8_check (hc2 r s hp) (by decide) rfl rfl rfl rfl rfl (Nat.le_of_ble_eq_true rfl) (fun r' s' hq => RR.pc (b := 1334) rfl ?_)
  exact r_icmp_eq (tgt := 1388) hX dL_law_1334 rfl (fun _ => kk s' hq.2) (fun z => absurd hq.1.symm z)
theorem lw_keep (hX : Fx X G RL cL_law 4 200) (hB : SB X G b L xs) (hL : L ≤ 3072) (hi : i + 6 ≤ L) (hR : Rel σ) (kk : ∀ σ', Rel σ' → RR X G 4 1388 (lvL G b i) [] σ') : RR X G 4 1339 (lvL G b i) [] σ := by
  obtain ⟨P, hc1, hc2⟩ := p_keep (G := G)  hR
  refine r_aload_n hX dL_law_1339 rfl ⟨_, rfl⟩ (RR.pc (b := 1340) rfl ?_)
  refine r_callVi hX dL_law_1340 ml_L_167 cd_X7_keep iv_X7_keep hc1 (by decide) rfl rfl rfl rfl rfl (Nat.le_of_ble_eq_true rfl) (fun r s hp => RR.pc (b := 1343) rfl ?_)
  refine r_aload_n hX dL_law_1343 rfl ⟨_, rfl⟩ (RR.pc (b := 1344) rfl ?_)
  refine r_callVi hX dL_law_1344 ml_L_170 cd_X8_keep iv_X8_keep (hc2 r s hp) (by decide) rfl rfl rfl rfl rfl (Nat.le_of_ble_eq_true rfl) (fun r' s' hq => RR.pc (b := 1347) rfl ?_)
  exact r_icmp_eq (tgt := 1388) hX dL_law_1347 rfl (fun _ => kk s' hq.2) (fun z => absurd hq.1.symm z)
theorem lw_back (hX : Fx X G RL cL_law 4 200) (hB : SB X G b L xs) (hL : L ≤ 3072) (hi : i + 6 ≤ L) (hR : Rel σ) (kk : ∀ σ', Rel σ' → RR X G 4 1388 (lvL G b i) [] σ') : RR X G 4 1352 (lvL G b i) [] σ := by
  obtain ⟨P, hc1, hc2⟩ := p_back (G := G)  hR
  refine r_aload_n hX dL_law_1352 rfl ⟨_, rfl⟩ (RR.pc (b := 1353) rfl ?_)
  refine r_callVi hX dL_law_1353 ml_L_171 cd_X7_back iv_X7_back hc1 (by decide) rfl rfl rfl rfl rfl (Nat.le_of_ble_eq_true rfl) (fun r s hp => RR.pc (b := 1356) rfl ?_)
  refine r_aload_n hX dL_law_1356 rfl ⟨_, rfl⟩ (RR.pc (b := 1357) rfl ?_)
  refine r_callVi hX dL_law_1357 ml_L_174 cd_X8_back iv_X8_back (hc2 r s hp) (by decide) rfl rfl rfl rfl rfl (Nat.le_of_ble_eq_true rfl) (fun r' s' hq => RR.pc (b := 1360) rfl ?_)
  exact r_icmp_eq (tgt := 1388) hX dL_law_1360 rfl (fun _ => kk s' hq.2) (fun z => absurd hq.1.symm z)
theorem lw_count (hX : Fx X G RL cL_law 4 200) (hB : SB X G b L xs) (hL : L ≤ 3072) (hi : i + 6 ≤ L) (hR : Rel σ) (kk : ∀ σ', Rel σ' → RR X G 4 1388 (lvL G b i) [] σ') : RR X G 4 1365 (lvL G b i) [] σ := by
  obtain ⟨P, hc1, hc2⟩ := p_count (G := G) (what := xs (i + 1)) hR
  refine r_aload_n hX dL_law_1365 rfl ⟨_, rfl⟩ (RR.pc (b := 1366) rfl ?_)
  refine r_arg (i := i) (j := 1) hX hB hL rfl rfl hi (by decide) rfl dL_law_1366 dL_law_1367 dL_law_1368 dL_law_1369 dL_law_1370 (RR.pc (b := 1371) rfl ?_)
  refine r_callVi hX dL_law_1371 ml_L_175 cd_X7_count iv_X7_count hc1 (by decide) rfl rfl rfl rfl rfl (Nat.le_of_ble_eq_true rfl) (fun r s hp => RR.pc (b := 1374) rfl ?_)
  refine r_aload_n hX dL_law_1374 rfl ⟨_, rfl⟩ (RR.pc (b := 1375) rfl ?_)
  refine r_arg (i := i) (j := 1) hX hB hL rfl rfl hi (by decide) rfl dL_law_1375 dL_law_1376 dL_law_1377 dL_law_1378 dL_law_1379 (RR.pc (b := 1380) rfl ?_)
  refine r_callVi hX dL_law_1380 ml_L_178 cd_X8_count iv_X8_count (hc2 r s hp) (by decide) rfl rfl rfl rfl rfl (Nat.le_of_ble_eq_true rfl) (fun r' s' hq => RR.pc (b := 1383) rfl ?_)
  exact r_icmp_eq (tgt := 1388) hX dL_law_1383 rfl (fun _ => kk s' hq.2) (fun z => absurd hq.1.symm z)
theorem lw_sw {x : Int32} (hX : Fx X G RL cL_law 4 200) (hB : SB X G b L xs) (hL : L ≤ 3072) (hi : i + 6 ≤ L) (hR : Rel σ) (kk : ∀ σ', Rel σ' → RR X G 4 1388 (lvL G b i) [] σ') : RR X G 4 33 (lvL G b i) [.int x] σ := by
  by_cases hx : 0 ≤ x.toInt ∧ x.toInt ≤ 39
  · obtain ⟨c, hc, rfl⟩ := inOf (K := 39) hx (by omega)
    match c, hc with
    | 0, _ => exact r_tableIn (off := 175) (tgt := 208) hX dL_law_33 (by decide) (by decide) rfl rfl (lw_mule hX hB hL hi hR kk)
    | 1, _ => exact r_tableIn (off := 228) (tgt := 261) hX dL_law_33 (by decide) (by decide) rfl rfl (lw_told hX hB hL hi hR kk)
    | 2, _ => exact r_tableIn (off := 261) (tgt := 294) hX dL_law_33 (by decide) (by decide) rfl rfl (lw_as hX hB hL hi hR kk)
    | 3, _ => exact r_tableIn (off := 294) (tgt := 327) hX dL_law_33 (by decide) (by decide) rfl rfl (lw_turns hX hB hL hi hR kk)
    | 4, _ => exact r_tableIn (off := 327) (tgt := 360) hX dL_law_33 (by decide) (by decide) rfl rfl (lw_set hX hB hL hi hR kk)
    | 5, _ => exact r_tableIn (off := 370) (tgt := 403) hX dL_law_33 (by decide) (by decide) rfl rfl (lw_rule hX hB hL hi hR kk)
    | 6, _ => exact r_tableIn (off := 403) (tgt := 436) hX dL_law_33 (by decide) (by decide) rfl rfl (lw_yard hX hB hL hi hR kk)
    | 7, _ => exact r_tableIn (off := 436) (tgt := 469) hX dL_law_33 (by decide) (by decide) rfl rfl (lw_sweep hX hB hL hi hR kk)
    | 8, _ => exact r_tableIn (off := 459) (tgt := 492) hX dL_law_33 (by decide) (by decide) rfl rfl (lw_rain hX hB hL hi hR kk)
    | 9, _ => exact r_tableIn (off := 472) (tgt := 505) hX dL_law_33 (by decide) (by decide) rfl rfl (lw_deal hX hB hL hi hR kk)
    | 10, _ => exact r_tableIn (off := 495) (tgt := 528) hX dL_law_33 (by decide) (by decide) rfl rfl (lw_seed hX hB hL hi hR kk)
    | 11, _ => exact r_tableIn (off := 518) (tgt := 551) hX dL_law_33 (by decide) (by decide) rfl rfl (lw_minutes hX hB hL hi hR kk)
    | 12, _ => exact r_tableIn (off := 541) (tgt := 574) hX dL_law_33 (by decide) (by decide) rfl rfl (lw_way hX hB hL hi hR kk)
    | 13, _ => exact r_tableIn (off := 564) (tgt := 597) hX dL_law_33 (by decide) (by decide) rfl rfl (lw_behind hX hB hL hi hR kk)
    | 14, _ => exact r_tableIn (off := 597) (tgt := 630) hX dL_law_33 (by decide) (by decide) rfl rfl (lw_empty hX hB hL hi hR kk)
    | 15, _ => exact r_tableIn (off := 610) (tgt := 643) hX dL_law_33 (by decide) (by decide) rfl rfl (lw_thickest hX hB hL hi hR kk)
    | 16, _ => exact r_tableIn (off := 643) (tgt := 676) hX dL_law_33 (by decide) (by decide) rfl rfl (lw_patch hX hB hL hi hR kk)
    | 17, _ => exact r_tableIn (off := 676) (tgt := 709) hX dL_law_33 (by decide) (by decide) rfl rfl (lw_pan hX hB hL hi hR kk)
    | 18, _ => exact r_tableIn (off := 709) (tgt := 742) hX dL_law_33 (by decide) (by decide) rfl rfl (lw_whose hX hB hL hi hR kk)
    | 19, _ => exact r_tableIn (off := 752) (tgt := 785) hX dL_law_33 (by decide) (by decide) rfl rfl (lw_fee hX hB hL hi hR kk)
    | 20, _ => exact r_tableIn (off := 765) (tgt := 798) hX dL_law_33 (by decide) (by decide) rfl rfl (lw_fine hX hB hL hi hR kk)
    | 21, _ => exact r_tableIn (off := 788) (tgt := 821) hX dL_law_33 (by decide) (by decide) rfl rfl (lw_feed hX hB hL hi hR kk)
    | 22, _ => exact r_tableIn (off := 831) (tgt := 864) hX dL_law_33 (by decide) (by decide) rfl rfl (lw_trim hX hB hL hi hR kk)
    | 23, _ => exact r_tableIn (off := 854) (tgt := 887) hX dL_law_33 (by decide) (by decide) rfl rfl (lw_text hX hB hL hi hR kk)
    | 24, _ => exact r_tableIn (off := 867) (tgt := 900) hX dL_law_33 (by decide) (by decide) rfl rfl (lw_textTold hX hB hL hi hR kk)
    | 25, _ => exact r_tableIn (off := 900) (tgt := 933) hX dL_law_33 (by decide) (by decide) rfl rfl (lw_why hX hB hL hi hR kk)
    | 26, _ => exact r_tableIn (off := 923) (tgt := 956) hX dL_law_33 (by decide) (by decide) rfl rfl (lw_sheet hX hB hL hi hR kk)
    | 27, _ => exact r_tableIn (off := 966) (tgt := 999) hX dL_law_33 (by decide) (by decide) rfl rfl (lw_mark hX hB hL hi hR kk)
    | 28, _ => exact r_tableIn (off := 1009) (tgt := 1042) hX dL_law_33 (by decide) (by decide) rfl rfl (lw_pour hX hB hL hi hR kk)
    | 29, _ => exact r_tableIn (off := 1032) (tgt := 1065) hX dL_law_33 (by decide) (by decide) rfl rfl (lw_reads hX hB hL hi hR kk)
    | 30, _ => exact r_tableIn (off := 1055) (tgt := 1088) hX dL_law_33 (by decide) (by decide) rfl rfl (lw_copy hX hB hL hi hR kk)
    | 31, _ => exact r_tableIn (off := 1118) (tgt := 1151) hX dL_law_33 (by decide) (by decide) rfl rfl (lw_lay hX hB hL hi hR kk)
    | 32, _ => exact r_tableIn (off := 1161) (tgt := 1194) hX dL_law_33 (by decide) (by decide) rfl rfl (lw_ask hX hB hL hi hR kk)
    | 33, _ => exact r_tableIn (off := 1194) (tgt := 1227) hX dL_law_33 (by decide) (by decide) rfl rfl (lw_item hX hB hL hi hR kk)
    | 34, _ => exact r_tableIn (off := 1227) (tgt := 1260) hX dL_law_33 (by decide) (by decide) rfl rfl (lw_rest hX hB hL hi hR kk)
    | 35, _ => exact r_tableIn (off := 1260) (tgt := 1293) hX dL_law_33 (by decide) (by decide) rfl rfl (lw_tell hX hB hL hi hR kk)
    | 36, _ => exact r_tableIn (off := 1283) (tgt := 1316) hX dL_law_33 (by decide) (by decide) rfl rfl (lw_check hX hB hL hi hR kk)
    | 37, _ => exact r_tableIn (off := 1306) (tgt := 1339) hX dL_law_33 (by decide) (by decide) rfl rfl (lw_keep hX hB hL hi hR kk)
    | 38, _ => exact r_tableIn (off := 1319) (tgt := 1352) hX dL_law_33 (by decide) (by decide) rfl rfl (lw_back hX hB hL hi hR kk)
    | 39, _ => exact r_tableIn (off := 1332) (tgt := 1365) hX dL_law_33 (by decide) (by decide) rfl rfl (lw_count hX hB hL hi hR kk)
    | c + 40, h => exact absurd h (by omega)
  · exact r_tableOut (tgt := 1388) hX dL_law_33 (by omega) rfl (kk σ hR)
end LWC
theorem lw_loop {X : CX} {G : GM} {b L : Nat} {xs : Nat → Int32} (hX : Fx X G RL cL_law 4 200) (hB : SB X G b L xs) (hL : L ≤ 3072) (fin : ∀ lv σ, RR X G 4 1394 lv [] σ) : ∀ k i σ, L ≤ i + k → i ≤ L → Rel σ → RR X G 4 18 (lvL G b i) [] σ := by
  intro k
  induction k with
  | zero =>
    intro i σ h1 h2 hR
    refine r_iload_n (i := 3) hX dL_law_18 rfl (RR.pc (b := 19) rfl ?_)
    refine r_aload_n hX dL_law_19 rfl ⟨_, rfl⟩ (RR.pc (b := 20) rfl ?_)
    refine r_slen hX dL_law_20 hB (RR.pc (b := 21) rfl ?_)
    refine r_bipush (v := 6) hX dL_law_21 rfl (RR.pc (b := 23) rfl ?_)
    refine r_isub hX dL_law_23 (RR.pc (b := 24) rfl ?_)
    refine r_icmp_gt (tgt := 1394) hX dL_law_24 rfl (fun _ => fin _ _) (fun z => absurd (Int32.lt_iff_toInt_lt.mpr ?_) z)
    rw [show (nI L - 6).toInt = (L : Int) - 6 from pk_sub_toInt (a := L) (b := 6) (by omega) (by omega), nI_toInt (by omega)]
    omega
  | succ k ih =>
    intro i σ h1 h2 hR
    refine r_iload_n (i := 3) hX dL_law_18 rfl (RR.pc (b := 19) rfl ?_)
    refine r_aload_n hX dL_law_19 rfl ⟨_, rfl⟩ (RR.pc (b := 20) rfl ?_)
    refine r_slen hX dL_law_20 hB (RR.pc (b := 21) rfl ?_)
    refine r_bipush (v := 6) hX dL_law_21 rfl (RR.pc (b := 23) rfl ?_)
    refine r_isub hX dL_law_23 (RR.pc (b := 24) rfl ?_)
    refine r_icmp_gt (tgt := 1394) hX dL_law_24 rfl (fun _ => fin _ _) (fun z => RR.pc (b := 27) rfl ?_)
    have hi : i + 6 ≤ L := by
      have z' : ¬ ((nI L - 6).toInt < (nI i).toInt) := fun q => z (Int32.lt_iff_toInt_lt.mpr q)
      rw [show (nI L - 6).toInt = (L : Int) - 6 from pk_sub_toInt (a := L) (b := 6) (by omega) (by omega), nI_toInt (by omega)] at z'
      omega
    refine r_aload_n hX dL_law_27 rfl ⟨_, rfl⟩ (RR.pc (b := 28) rfl ?_)
    refine r_iload_n (i := 3) hX dL_law_28 rfl (RR.pc (b := 29) rfl ?_)
    refine r_sld (k := i) hX dL_law_29 hB hL (by omega) rfl (RR.pc (b := 30) rfl ?_)
    refine r_bipush (v := 63) hX dL_law_30 rfl (RR.pc (b := 32) rfl ?_)
    refine r_iand hX dL_law_32 (RR.pc (b := 33) rfl ?_)
    refine lw_sw hX hB hL hi hR (fun σ' hR' => ?_)
    refine r_iinc (v := nI (i + 6)) hX dL_law_1388 rfl (by decide) (nI_add i 6) (RR.pc (b := 1391) rfl ?_)
    refine r_goto (tgt := 18) hX dL_law_1391 rfl ?_
    refine RR.cut (l := [(0, .ref b), (1, rf G 0), (2, rf G 109), (3, .int (nI (i + 6)))]) (ih (i + 6) σ' (by omega) hi hR') ?_
    intro q hq
    simp only [List.mem_cons, List.not_mem_nil, or_false] at hq
    rcases hq with rfl | rfl | rfl | rfl <;> rfl
