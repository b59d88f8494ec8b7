/-! THE LAW: its cases in its code (written by wip/whole/gen80.py) -/
/-- a case of the law goes on to the next call -/
def LW (pc : Nat) (h : aH) (i kc ks : Nat) (v5 v6 v7 v8 : aV) : Prop := ∃ (h' : aH) (t : Int) (g : Nat → Int64) (w : Nat → Int) (ps : List (Nat → Int)) (kp : Option (Nat → Int)) (T : Nat) (bu : Nat → Int) (ek eo : Int) (rl : Nat) (rp : Nat → Int) (kc' ks' : Nat) (u5 u6 u7 u8 : aV), JJ h' t g w ps kp T bu ek eo rl rp ∧ h'.1 = h.1 ∧ kc' ≤ kc + 6 ∧ ks' ≤ ks + 36 ∧ ∀ res, RU 18 387 res (3219, [aC 0, aR 0, aR 226, aR 236, aI ((i : Nat) : Int), u5, u6, u7, u8], [], kc', ks', h') → RU 18 387 res (pc, [aC 0, aR 0, aR 226, aR 236, aI ((i : Nat) : Int), v5, v6, v7, v8], [], kc, ks, h)
theorem mb_387 : mbud 387 = (601024, 7293034) := rfl
theorem mbk {x : Nat} (h : x ≤ 601024) : x ≤ (mbud 387).1 := by rw [mb_387]; exact h
theorem mbs {x : Nat} (h : x ≤ 7293034) : x ≤ (mbud 387).2 := by rw [mb_387]; exact h
theorem lg_eq {x z : Int64} (e : x = z) : (lg_cmp x z).toInt = 0 := by
  subst e
  have h : ¬ x > x := Int64.lt_irrefl
  unfold lg_cmp
  rw [if_neg h, if_pos rfl]
  rfl
theorem w32_in (x : Int32) : inR x.toInt := by
  have h1 := Int32.le_toInt x
  have h2 := Int32.toInt_lt x
  constructor
  · simpa using h1
  · simpa using h2
theorem JJ.thr {h : aH} {t : Int} {g : Nat → Int64} {w : Nat → Int} {ps : List (Nat → Int)} {kp : Option (Nat → Int)} {T : Nat} {bu : Nat → Int} {ek eo : Int} {rl : Nat} {rp : Nat → Int} (J : JJ h t g w ps kp T bu ek eo rl rp) : Ct 1 246 [aR 226] h (.inl (some (aI t)), h) := by
  obtain ⟨-, ⟨s, b0, as, P, kd, tx, nu, M, S⟩, -⟩ := J
  exact (c_246 M.1).eq (by rw [S.2.2.2.2.2.2.1])
section LCODE
variable {h : aH} {t : Int} {g : Nat → Int64} {w : Nat → Int} {ps : List (Nat → Int)} {kp : Option (Nat → Int)} {T : Nat} {bu : Nat → Int} {ek eo : Int} {rl : Nat} {rp : Nat → Int} {i kc ks : Nat} {v5 v6 v7 v8 : aV}
theorem JJ.mo (J : JJ h t g w ps kp T bu ek eo rl rp) : ∃ s, h.2.2 226 = .inr (8, Mo s) := by
  obtain ⟨-, ⟨s, b0, as, P, kd, tx, nu, M, S⟩, -⟩ := J
  exact ⟨s, M.1⟩
theorem la_0 (J : JJ h t g w ps kp T bu ek eo rl rp) (hi : i + 6 ≤ h.1.1) (hn : h.1.1 ≤ 3072) (hf : ∀ j, inR (h.1.2 j)) (hk : kc + 6 ≤ 601024) (hs : ks + 36 ≤ 7293034) : LW 308 h i kc ks v5 v6 v7 v8 := by
  obtain ⟨h0, -⟩ := id J.1
  obtain ⟨h1, h2, v, t1, g1, w1, ps1, kp1, T1, bu1, ek1, eo1, rl1, rp1, c1, ⟨s1, m1⟩, c2, j2, e2, e1⟩ := l_0 J (h.1.2 (i + 1)) (hf _) (h.1.2 (i + 2)) (hf _) (h.1.2 (i + 3)) (hf _) (h.1.2 (i + 4)) (hf _) (h.1.2 (i + 5)) (hf _)
  rw [← e1] at c2
  obtain ⟨s2, m2⟩ := j2.mo
  have o2 := j2.2.2.2
  refine ⟨h2, _, _, _, _, _, _, _, _, _, _, _, kc, ks, v5, v6, v7, v8, j2, e2, by omega, by omega, fun res k => ?_⟩
  refine r_aldR cd_387_308 rfl rfl ?_
  refine r_aldC cd_387_309 rfl rfl ?_
  refine r_ild cd_387_310 rfl rfl ?_
  refine r_con (v := 1) cd_387_312 rfl (by decide) ?_
  refine r_add (v := ((i + 1 : Nat) : Int)) cd_387_313 rfl (by omega) ?_
  refine r_arrS (i := i + 1) cd_387_314 rfl rfl rfl (by omega) (by omega) ?_
  refine r_aldC cd_387_315 rfl rfl ?_
  refine r_ild cd_387_316 rfl rfl ?_
  refine r_con (v := 2) cd_387_318 rfl (by decide) ?_
  refine r_add (v := ((i + 2 : Nat) : Int)) cd_387_319 rfl (by omega) ?_
  refine r_arrS (i := i + 2) cd_387_320 rfl rfl rfl (by omega) (by omega) ?_
  refine r_aldC cd_387_321 rfl rfl ?_
  refine r_ild cd_387_322 rfl rfl ?_
  refine r_con (v := 3) cd_387_324 rfl (by decide) ?_
  refine r_add (v := ((i + 3 : Nat) : Int)) cd_387_325 rfl (by omega) ?_
  refine r_arrS (i := i + 3) cd_387_326 rfl rfl rfl (by omega) (by omega) ?_
  refine r_aldC cd_387_327 rfl rfl ?_
  refine r_ild cd_387_328 rfl rfl ?_
  refine r_con (v := 4) cd_387_330 rfl (by decide) ?_
  refine r_add (v := ((i + 4 : Nat) : Int)) cd_387_331 rfl (by omega) ?_
  refine r_arrS (i := i + 4) cd_387_332 rfl rfl rfl (by omega) (by omega) ?_
  refine r_aldC cd_387_333 rfl rfl ?_
  refine r_ild cd_387_334 rfl rfl ?_
  refine r_con (v := 5) cd_387_336 rfl (by decide) ?_
  refine r_add (v := ((i + 5 : Nat) : Int)) cd_387_337 rfl (by omega) ?_
  refine r_arrS (i := i + 5) cd_387_338 rfl rfl rfl (by omega) (by omega) ?_
  refine r_cI c1 cd_387_339 rfl rfl rfl (rc0 h0 rfl) rfl rfl rfl ?_
  refine r_aldR cd_387_342 rfl rfl ?_
  refine r_aldC cd_387_343 rfl rfl ?_
  refine r_ild cd_387_344 rfl rfl ?_
  refine r_con (v := 1) cd_387_346 rfl (by decide) ?_
  refine r_add (v := ((i + 1 : Nat) : Int)) cd_387_347 rfl (by omega) ?_
  refine r_arrS (i := i + 1) cd_387_348 rfl rfl rfl (by rw [e1]; omega) (by rw [e1]; omega) ?_
  refine r_aldC cd_387_349 rfl rfl ?_
  refine r_ild cd_387_350 rfl rfl ?_
  refine r_con (v := 2) cd_387_352 rfl (by decide) ?_
  refine r_add (v := ((i + 2 : Nat) : Int)) cd_387_353 rfl (by omega) ?_
  refine r_arrS (i := i + 2) cd_387_354 rfl rfl rfl (by rw [e1]; omega) (by rw [e1]; omega) ?_
  refine r_aldC cd_387_355 rfl rfl ?_
  refine r_ild cd_387_356 rfl rfl ?_
  refine r_con (v := 3) cd_387_358 rfl (by decide) ?_
  refine r_add (v := ((i + 3 : Nat) : Int)) cd_387_359 rfl (by omega) ?_
  refine r_arrS (i := i + 3) cd_387_360 rfl rfl rfl (by rw [e1]; omega) (by rw [e1]; omega) ?_
  refine r_aldC cd_387_361 rfl rfl ?_
  refine r_ild cd_387_362 rfl rfl ?_
  refine r_con (v := 4) cd_387_364 rfl (by decide) ?_
  refine r_add (v := ((i + 4 : Nat) : Int)) cd_387_365 rfl (by omega) ?_
  refine r_arrS (i := i + 4) cd_387_366 rfl rfl rfl (by rw [e1]; omega) (by rw [e1]; omega) ?_
  refine r_aldC cd_387_367 rfl rfl ?_
  refine r_ild cd_387_368 rfl rfl ?_
  refine r_con (v := 5) cd_387_370 rfl (by decide) ?_
  refine r_add (v := ((i + 5 : Nat) : Int)) cd_387_371 rfl (by omega) ?_
  refine r_arrS (i := i + 5) cd_387_372 rfl rfl rfl (by rw [e1]; omega) (by rw [e1]; omega) ?_
  refine r_cI c2 cd_387_373 rfl rfl rfl (rc0 m1 rfl) rfl rfl rfl ?_
  refine r_ic61e cd_387_376 rfl (rfl) ?_
  exact k
theorem la_1 (J : JJ h t g w ps kp T bu ek eo rl rp) (hi : i + 6 ≤ h.1.1) (hn : h.1.1 ≤ 3072) (hf : ∀ j, inR (h.1.2 j)) (hk : kc + 6 ≤ 601024) (hs : ks + 36 ≤ 7293034) : LW 381 h i kc ks v5 v6 v7 v8 := by
  obtain ⟨h0, -⟩ := id J.1
  obtain ⟨h1, h2, cd, b, g1, w1, ps1, kp1, T1, bu1, ek1, eo1, rl1, rp1, c1, ⟨s1, m1⟩, c2, j2, hcb, e2, hc0, hc3, e1⟩ := l_1 J (h.1.2 (i + 1)) (hf _)
  rw [← e1] at c2
  obtain ⟨s2, m2⟩ := j2.mo
  have o2 := j2.2.2.2
  refine ⟨h2, _, _, _, _, _, _, _, _, _, _, _, kc + 1, ks + 6, aI cd, aI b, v7, v8, j2, e2, by omega, by omega, fun res k => ?_⟩
  refine r_aldR cd_387_381 rfl rfl ?_
  refine r_aldC cd_387_382 rfl rfl ?_
  refine r_ild cd_387_383 rfl rfl ?_
  refine r_con (v := 1) cd_387_385 rfl (by decide) ?_
  refine r_add (v := ((i + 1 : Nat) : Int)) cd_387_386 rfl (by omega) ?_
  refine r_arrS (i := i + 1) cd_387_387 rfl rfl rfl (by omega) (by omega) ?_
  refine r_aldR cd_387_388 rfl rfl ?_
  refine r_dI (k1 := 1) (k2 := 6) (kc' := kc + 1) (ks' := ks + 6) c1 cd_387_389 rfl rfl rfl True.intro rfl rfl rfl rfl (mbk (by omega)) (mbs (by omega)) rfl ?_
  refine r_ist cd_387_392 rfl rfl (L' := [aC 0, aR 0, aR 226, aR 236, aI ((i : Nat) : Int), aI cd, v6, v7, v8]) rfl ?_
  refine r_aldR cd_387_394 rfl rfl ?_
  refine r_aldC cd_387_395 rfl rfl ?_
  refine r_ild cd_387_396 rfl rfl ?_
  refine r_con (v := 1) cd_387_398 rfl (by decide) ?_
  refine r_add (v := ((i + 1 : Nat) : Int)) cd_387_399 rfl (by omega) ?_
  refine r_arrS (i := i + 1) cd_387_400 rfl rfl rfl (by rw [e1]; omega) (by rw [e1]; omega) ?_
  refine r_cI c2 cd_387_401 rfl rfl rfl (rc0 m1 rfl) rfl rfl rfl ?_
  refine r_ist cd_387_404 rfl rfl (L' := [aC 0, aR 0, aR 226, aR 236, aI ((i : Nat) : Int), aI cd, aI b, v7, v8]) rfl ?_
  refine r_aldR cd_387_406 rfl rfl ?_
  refine r_cI j2.thr cd_387_407 rfl rfl rfl (rc0 m2 rfl) rfl rfl rfl ?_
  refine r_ild cd_387_410 rfl rfl ?_
  refine r_ic61e cd_387_412 rfl (rfl) ?_
  refine r_ild cd_387_417 rfl rfl ?_
  refine r_if52 cd_387_419 rfl ⟨by omega, by omega⟩ (fun n2 => ?_) (fun n2 => ?_)
  · refine r_aldR cd_387_422 rfl rfl ?_
    refine r_con (v := 0) cd_387_423 rfl (by decide) ?_
    refine r_lld (i := 0) cd_387_424 rfl o2 rfl (by omega) rfl ?_
    refine r_ild cd_387_425 rfl rfl ?_
    refine r_i2l cd_387_427 rfl ?_
    refine r_lcmp (v := 0) cd_387_428 rfl (lg_eq (hcb n2)) ?_
    refine r_if51 cd_387_429 rfl ⟨by omega, by omega⟩ (fun n3 => ?_) (fun n3 => ?_)
    · refine r_goto cd_387_434 ?_
      exact k
    · exact absurd n3 (by decide)
  · refine r_goto cd_387_434 ?_
    exact k
theorem la_2 (J : JJ h t g w ps kp T bu ek eo rl rp) (hi : i + 6 ≤ h.1.1) (hn : h.1.1 ≤ 3072) (hf : ∀ j, inR (h.1.2 j)) (hk : kc + 6 ≤ 601024) (hs : ks + 36 ≤ 7293034) : LW 437 h i kc ks v5 v6 v7 v8 := by
  obtain ⟨h0, -⟩ := id J.1
  obtain ⟨h1, h2, v, t1, g1, w1, ps1, kp1, T1, bu1, ek1, eo1, rl1, rp1, c1, ⟨s1, m1⟩, c2, j2, e2, e1⟩ := l_2 J 
  obtain ⟨s2, m2⟩ := j2.mo
  have o2 := j2.2.2.2
  refine ⟨h2, _, _, _, _, _, _, _, _, _, _, _, kc, ks, v5, v6, v7, v8, j2, e2, by omega, by omega, fun res k => ?_⟩
  refine r_aldR cd_387_437 rfl rfl ?_
  refine r_cI c1 cd_387_438 rfl rfl rfl (rc0 h0 rfl) rfl rfl rfl ?_
  refine r_aldR cd_387_441 rfl rfl ?_
  refine r_cI c2 cd_387_442 rfl rfl rfl (rc0 m1 rfl) rfl rfl rfl ?_
  refine r_ic61e cd_387_445 rfl (rfl) ?_
  exact k
theorem la_3 (J : JJ h t g w ps kp T bu ek eo rl rp) (hi : i + 6 ≤ h.1.1) (hn : h.1.1 ≤ 3072) (hf : ∀ j, inR (h.1.2 j)) (hk : kc + 6 ≤ 601024) (hs : ks + 36 ≤ 7293034) : LW 450 h i kc ks v5 v6 v7 v8 := by
  obtain ⟨h0, -⟩ := id J.1
  obtain ⟨h1, h2, cd, b, g1, w1, ps1, kp1, T1, bu1, ek1, eo1, rl1, rp1, c1, ⟨s1, m1⟩, c2, j2, hcb, e2, hc0, hc3, e1⟩ := l_3 J (h.1.2 (i + 1)) (hf _) (h.1.2 (i + 2)) (hf _)
  rw [← e1] at c2
  obtain ⟨s2, m2⟩ := j2.mo
  have o2 := j2.2.2.2
  refine ⟨h2, _, _, _, _, _, _, _, _, _, _, _, kc + 3, ks + 18, aI cd, aI b, v7, v8, j2, e2, by omega, by omega, fun res k => ?_⟩
  refine r_aldR cd_387_450 rfl rfl ?_
  refine r_aldC cd_387_451 rfl rfl ?_
  refine r_ild cd_387_452 rfl rfl ?_
  refine r_con (v := 1) cd_387_454 rfl (by decide) ?_
  refine r_add (v := ((i + 1 : Nat) : Int)) cd_387_455 rfl (by omega) ?_
  refine r_arrS (i := i + 1) cd_387_456 rfl rfl rfl (by omega) (by omega) ?_
  refine r_aldC cd_387_457 rfl rfl ?_
  refine r_ild cd_387_458 rfl rfl ?_
  refine r_con (v := 2) cd_387_460 rfl (by decide) ?_
  refine r_add (v := ((i + 2 : Nat) : Int)) cd_387_461 rfl (by omega) ?_
  refine r_arrS (i := i + 2) cd_387_462 rfl rfl rfl (by omega) (by omega) ?_
  refine r_aldR cd_387_463 rfl rfl ?_
  refine r_dI (k1 := 3) (k2 := 18) (kc' := kc + 3) (ks' := ks + 18) c1 cd_387_464 rfl rfl rfl True.intro rfl rfl rfl rfl (mbk (by omega)) (mbs (by omega)) rfl ?_
  refine r_ist cd_387_467 rfl rfl (L' := [aC 0, aR 0, aR 226, aR 236, aI ((i : Nat) : Int), aI cd, v6, v7, v8]) rfl ?_
  refine r_aldR cd_387_469 rfl rfl ?_
  refine r_aldC cd_387_470 rfl rfl ?_
  refine r_ild cd_387_471 rfl rfl ?_
  refine r_con (v := 1) cd_387_473 rfl (by decide) ?_
  refine r_add (v := ((i + 1 : Nat) : Int)) cd_387_474 rfl (by omega) ?_
  refine r_arrS (i := i + 1) cd_387_475 rfl rfl rfl (by rw [e1]; omega) (by rw [e1]; omega) ?_
  refine r_aldC cd_387_476 rfl rfl ?_
  refine r_ild cd_387_477 rfl rfl ?_
  refine r_con (v := 2) cd_387_479 rfl (by decide) ?_
  refine r_add (v := ((i + 2 : Nat) : Int)) cd_387_480 rfl (by omega) ?_
  refine r_arrS (i := i + 2) cd_387_481 rfl rfl rfl (by rw [e1]; omega) (by rw [e1]; omega) ?_
  refine r_cI c2 cd_387_482 rfl rfl rfl (rc0 m1 rfl) rfl rfl rfl ?_
  refine r_ist cd_387_485 rfl rfl (L' := [aC 0, aR 0, aR 226, aR 236, aI ((i : Nat) : Int), aI cd, aI b, v7, v8]) rfl ?_
  refine r_aldR cd_387_487 rfl rfl ?_
  refine r_cI j2.thr cd_387_488 rfl rfl rfl (rc0 m2 rfl) rfl rfl rfl ?_
  refine r_ild cd_387_491 rfl rfl ?_
  refine r_ic61e cd_387_493 rfl (rfl) ?_
  refine r_ild cd_387_498 rfl rfl ?_
  refine r_if52 cd_387_500 rfl ⟨by omega, by omega⟩ (fun n2 => ?_) (fun n2 => ?_)
  · refine r_aldR cd_387_503 rfl rfl ?_
    refine r_con (v := 0) cd_387_504 rfl (by decide) ?_
    refine r_lld (i := 0) cd_387_505 rfl o2 rfl (by omega) rfl ?_
    refine r_ild cd_387_506 rfl rfl ?_
    refine r_i2l cd_387_508 rfl ?_
    refine r_lcmp (v := 0) cd_387_509 rfl (lg_eq (hcb n2)) ?_
    refine r_if51 cd_387_510 rfl ⟨by omega, by omega⟩ (fun n3 => ?_) (fun n3 => ?_)
    · refine r_goto cd_387_515 ?_
      exact k
    · exact absurd n3 (by decide)
  · refine r_goto cd_387_515 ?_
    exact k
theorem la_4 (J : JJ h t g w ps kp T bu ek eo rl rp) (hi : i + 6 ≤ h.1.1) (hn : h.1.1 ≤ 3072) (hf : ∀ j, inR (h.1.2 j)) (hk : kc + 6 ≤ 601024) (hs : ks + 36 ≤ 7293034) : LW 518 h i kc ks v5 v6 v7 v8 := by
  obtain ⟨h0, -⟩ := id J.1
  obtain ⟨h1, h2, cd, b, g1, w1, ps1, kp1, T1, bu1, ek1, eo1, rl1, rp1, c1, ⟨s1, m1⟩, c2, j2, hcb, e2, hc0, hc3, e1⟩ := l_4 J (h.1.2 (i + 1)) (hf _) (h.1.2 (i + 2)) (hf _)
  rw [← e1] at c2
  obtain ⟨s2, m2⟩ := j2.mo
  have o2 := j2.2.2.2
  refine ⟨h2, _, _, _, _, _, _, _, _, _, _, _, kc + 3, ks + 18, aI cd, aI b, v7, v8, j2, e2, by omega, by omega, fun res k => ?_⟩
  refine r_aldR cd_387_518 rfl rfl ?_
  refine r_aldC cd_387_519 rfl rfl ?_
  refine r_ild cd_387_520 rfl rfl ?_
  refine r_con (v := 1) cd_387_522 rfl (by decide) ?_
  refine r_add (v := ((i + 1 : Nat) : Int)) cd_387_523 rfl (by omega) ?_
  refine r_arrS (i := i + 1) cd_387_524 rfl rfl rfl (by omega) (by omega) ?_
  refine r_aldC cd_387_525 rfl rfl ?_
  refine r_ild cd_387_526 rfl rfl ?_
  refine r_con (v := 2) cd_387_528 rfl (by decide) ?_
  refine r_add (v := ((i + 2 : Nat) : Int)) cd_387_529 rfl (by omega) ?_
  refine r_arrS (i := i + 2) cd_387_530 rfl rfl rfl (by omega) (by omega) ?_
  refine r_aldR cd_387_531 rfl rfl ?_
  refine r_dI (k1 := 3) (k2 := 18) (kc' := kc + 3) (ks' := ks + 18) c1 cd_387_532 rfl rfl rfl True.intro rfl rfl rfl rfl (mbk (by omega)) (mbs (by omega)) rfl ?_
  refine r_ist cd_387_535 rfl rfl (L' := [aC 0, aR 0, aR 226, aR 236, aI ((i : Nat) : Int), aI cd, v6, v7, v8]) rfl ?_
  refine r_aldR cd_387_537 rfl rfl ?_
  refine r_aldC cd_387_538 rfl rfl ?_
  refine r_ild cd_387_539 rfl rfl ?_
  refine r_con (v := 1) cd_387_541 rfl (by decide) ?_
  refine r_add (v := ((i + 1 : Nat) : Int)) cd_387_542 rfl (by omega) ?_
  refine r_arrS (i := i + 1) cd_387_543 rfl rfl rfl (by rw [e1]; omega) (by rw [e1]; omega) ?_
  refine r_aldC cd_387_544 rfl rfl ?_
  refine r_ild cd_387_545 rfl rfl ?_
  refine r_con (v := 2) cd_387_547 rfl (by decide) ?_
  refine r_add (v := ((i + 2 : Nat) : Int)) cd_387_548 rfl (by omega) ?_
  refine r_arrS (i := i + 2) cd_387_549 rfl rfl rfl (by rw [e1]; omega) (by rw [e1]; omega) ?_
  refine r_cI c2 cd_387_550 rfl rfl rfl (rc0 m1 rfl) rfl rfl rfl ?_
  refine r_ist cd_387_553 rfl rfl (L' := [aC 0, aR 0, aR 226, aR 236, aI ((i : Nat) : Int), aI cd, aI b, v7, v8]) rfl ?_
  refine r_aldR cd_387_555 rfl rfl ?_
  refine r_cI j2.thr cd_387_556 rfl rfl rfl (rc0 m2 rfl) rfl rfl rfl ?_
  refine r_ild cd_387_559 rfl rfl ?_
  refine r_ic61e cd_387_561 rfl (rfl) ?_
  refine r_ild cd_387_566 rfl rfl ?_
  refine r_if52 cd_387_568 rfl ⟨by omega, by omega⟩ (fun n2 => ?_) (fun n2 => ?_)
  · refine r_aldR cd_387_571 rfl rfl ?_
    refine r_con (v := 0) cd_387_572 rfl (by decide) ?_
    refine r_lld (i := 0) cd_387_573 rfl o2 rfl (by omega) rfl ?_
    refine r_ild cd_387_574 rfl rfl ?_
    refine r_i2l cd_387_576 rfl ?_
    refine r_lcmp (v := 0) cd_387_577 rfl (lg_eq (hcb n2)) ?_
    refine r_if51 cd_387_578 rfl ⟨by omega, by omega⟩ (fun n3 => ?_) (fun n3 => ?_)
    · refine r_goto cd_387_583 ?_
      exact k
    · exact absurd n3 (by decide)
  · refine r_goto cd_387_583 ?_
    exact k
theorem la_5 (J : JJ h t g w ps kp T bu ek eo rl rp) (hi : i + 6 ≤ h.1.1) (hn : h.1.1 ≤ 3072) (hf : ∀ j, inR (h.1.2 j)) (hk : kc + 6 ≤ 601024) (hs : ks + 36 ≤ 7293034) : LW 586 h i kc ks v5 v6 v7 v8 := by
  obtain ⟨h0, -⟩ := id J.1
  obtain ⟨h1, h2, cd, b, g1, w1, ps1, kp1, T1, bu1, ek1, eo1, rl1, rp1, c1, ⟨s1, m1⟩, c2, j2, hcb, e2, hc0, hc3, e1⟩ := l_5 J (h.1.2 (i + 1)) (hf _)
  rw [← e1] at c2
  obtain ⟨s2, m2⟩ := j2.mo
  have o2 := j2.2.2.2
  refine ⟨h2, _, _, _, _, _, _, _, _, _, _, _, kc + 2, ks + 12, aI cd, aI b, v7, v8, j2, e2, by omega, by omega, fun res k => ?_⟩
  refine r_aldR cd_387_586 rfl rfl ?_
  refine r_aldC cd_387_587 rfl rfl ?_
  refine r_ild cd_387_588 rfl rfl ?_
  refine r_con (v := 1) cd_387_590 rfl (by decide) ?_
  refine r_add (v := ((i + 1 : Nat) : Int)) cd_387_591 rfl (by omega) ?_
  refine r_arrS (i := i + 1) cd_387_592 rfl rfl rfl (by omega) (by omega) ?_
  refine r_aldR cd_387_593 rfl rfl ?_
  refine r_dI (k1 := 2) (k2 := 12) (kc' := kc + 2) (ks' := ks + 12) c1 cd_387_594 rfl rfl rfl True.intro rfl rfl rfl rfl (mbk (by omega)) (mbs (by omega)) rfl ?_
  refine r_ist cd_387_597 rfl rfl (L' := [aC 0, aR 0, aR 226, aR 236, aI ((i : Nat) : Int), aI cd, v6, v7, v8]) rfl ?_
  refine r_aldR cd_387_599 rfl rfl ?_
  refine r_aldC cd_387_600 rfl rfl ?_
  refine r_ild cd_387_601 rfl rfl ?_
  refine r_con (v := 1) cd_387_603 rfl (by decide) ?_
  refine r_add (v := ((i + 1 : Nat) : Int)) cd_387_604 rfl (by omega) ?_
  refine r_arrS (i := i + 1) cd_387_605 rfl rfl rfl (by rw [e1]; omega) (by rw [e1]; omega) ?_
  refine r_cI c2 cd_387_606 rfl rfl rfl (rc0 m1 rfl) rfl rfl rfl ?_
  refine r_ist cd_387_609 rfl rfl (L' := [aC 0, aR 0, aR 226, aR 236, aI ((i : Nat) : Int), aI cd, aI b, v7, v8]) rfl ?_
  refine r_aldR cd_387_611 rfl rfl ?_
  refine r_cI j2.thr cd_387_612 rfl rfl rfl (rc0 m2 rfl) rfl rfl rfl ?_
  refine r_ild cd_387_615 rfl rfl ?_
  refine r_ic61e cd_387_617 rfl (rfl) ?_
  refine r_ild cd_387_622 rfl rfl ?_
  refine r_if52 cd_387_624 rfl ⟨by omega, by omega⟩ (fun n2 => ?_) (fun n2 => ?_)
  · refine r_aldR cd_387_627 rfl rfl ?_
    refine r_con (v := 0) cd_387_628 rfl (by decide) ?_
    refine r_lld (i := 0) cd_387_629 rfl o2 rfl (by omega) rfl ?_
    refine r_ild cd_387_630 rfl rfl ?_
    refine r_i2l cd_387_632 rfl ?_
    refine r_lcmp (v := 0) cd_387_633 rfl (lg_eq (hcb n2)) ?_
    refine r_if51 cd_387_634 rfl ⟨by omega, by omega⟩ (fun n3 => ?_) (fun n3 => ?_)
    · refine r_goto cd_387_639 ?_
      exact k
    · exact absurd n3 (by decide)
  · refine r_goto cd_387_639 ?_
    exact k
theorem la_6 (J : JJ h t g w ps kp T bu ek eo rl rp) (hi : i + 6 ≤ h.1.1) (hn : h.1.1 ≤ 3072) (hf : ∀ j, inR (h.1.2 j)) (hk : kc + 6 ≤ 601024) (hs : ks + 36 ≤ 7293034) : LW 642 h i kc ks v5 v6 v7 v8 := by
  obtain ⟨h0, -⟩ := id J.1
  obtain ⟨h1, h2, cd, b, g1, w1, ps1, kp1, T1, bu1, ek1, eo1, rl1, rp1, c1, ⟨s1, m1⟩, c2, j2, hcb, e2, hc0, hc3, e1⟩ := l_6 J (h.1.2 (i + 1)) (hf _)
  rw [← e1] at c2
  obtain ⟨s2, m2⟩ := j2.mo
  have o2 := j2.2.2.2
  refine ⟨h2, _, _, _, _, _, _, _, _, _, _, _, kc + 2, ks + 12, aI cd, aI b, v7, v8, j2, e2, by omega, by omega, fun res k => ?_⟩
  refine r_aldR cd_387_642 rfl rfl ?_
  refine r_aldC cd_387_643 rfl rfl ?_
  refine r_ild cd_387_644 rfl rfl ?_
  refine r_con (v := 1) cd_387_646 rfl (by decide) ?_
  refine r_add (v := ((i + 1 : Nat) : Int)) cd_387_647 rfl (by omega) ?_
  refine r_arrS (i := i + 1) cd_387_648 rfl rfl rfl (by omega) (by omega) ?_
  refine r_aldR cd_387_649 rfl rfl ?_
  refine r_dI (k1 := 2) (k2 := 12) (kc' := kc + 2) (ks' := ks + 12) c1 cd_387_650 rfl rfl rfl True.intro rfl rfl rfl rfl (mbk (by omega)) (mbs (by omega)) rfl ?_
  refine r_ist cd_387_653 rfl rfl (L' := [aC 0, aR 0, aR 226, aR 236, aI ((i : Nat) : Int), aI cd, v6, v7, v8]) rfl ?_
  refine r_aldR cd_387_655 rfl rfl ?_
  refine r_aldC cd_387_656 rfl rfl ?_
  refine r_ild cd_387_657 rfl rfl ?_
  refine r_con (v := 1) cd_387_659 rfl (by decide) ?_
  refine r_add (v := ((i + 1 : Nat) : Int)) cd_387_660 rfl (by omega) ?_
  refine r_arrS (i := i + 1) cd_387_661 rfl rfl rfl (by rw [e1]; omega) (by rw [e1]; omega) ?_
  refine r_cI c2 cd_387_662 rfl rfl rfl (rc0 m1 rfl) rfl rfl rfl ?_
  refine r_ist cd_387_665 rfl rfl (L' := [aC 0, aR 0, aR 226, aR 236, aI ((i : Nat) : Int), aI cd, aI b, v7, v8]) rfl ?_
  refine r_aldR cd_387_667 rfl rfl ?_
  refine r_cI j2.thr cd_387_668 rfl rfl rfl (rc0 m2 rfl) rfl rfl rfl ?_
  refine r_ild cd_387_671 rfl rfl ?_
  refine r_ic61e cd_387_673 rfl (rfl) ?_
  refine r_ild cd_387_678 rfl rfl ?_
  refine r_if52 cd_387_680 rfl ⟨by omega, by omega⟩ (fun n2 => ?_) (fun n2 => ?_)
  · refine r_aldR cd_387_683 rfl rfl ?_
    refine r_con (v := 0) cd_387_684 rfl (by decide) ?_
    refine r_lld (i := 0) cd_387_685 rfl o2 rfl (by omega) rfl ?_
    refine r_ild cd_387_686 rfl rfl ?_
    refine r_i2l cd_387_688 rfl ?_
    refine r_lcmp (v := 0) cd_387_689 rfl (lg_eq (hcb n2)) ?_
    refine r_if51 cd_387_690 rfl ⟨by omega, by omega⟩ (fun n3 => ?_) (fun n3 => ?_)
    · refine r_goto cd_387_695 ?_
      exact k
    · exact absurd n3 (by decide)
  · refine r_goto cd_387_695 ?_
    exact k
theorem la_7 (J : JJ h t g w ps kp T bu ek eo rl rp) (hi : i + 6 ≤ h.1.1) (hn : h.1.1 ≤ 3072) (hf : ∀ j, inR (h.1.2 j)) (hk : kc + 6 ≤ 601024) (hs : ks + 36 ≤ 7293034) : LW 698 h i kc ks v5 v6 v7 v8 := by
  obtain ⟨h0, -⟩ := id J.1
  obtain ⟨h1, h2, cd, b, g1, w1, ps1, kp1, T1, bu1, ek1, eo1, rl1, rp1, c1, ⟨s1, m1⟩, c2, j2, hcb, e2, hc0, hc3, e1⟩ := l_7 J (h.1.2 (i + 1)) (hf _) (h.1.2 (i + 2)) (hf _) (h.1.2 (i + 3)) (hf _)
  rw [← e1] at c2
  obtain ⟨s2, m2⟩ := j2.mo
  have o2 := j2.2.2.2
  refine ⟨h2, _, _, _, _, _, _, _, _, _, _, _, kc + 4, ks + 24, aI cd, aI b, v7, v8, j2, e2, by omega, by omega, fun res k => ?_⟩
  refine r_aldR cd_387_698 rfl rfl ?_
  refine r_aldC cd_387_699 rfl rfl ?_
  refine r_ild cd_387_700 rfl rfl ?_
  refine r_con (v := 1) cd_387_702 rfl (by decide) ?_
  refine r_add (v := ((i + 1 : Nat) : Int)) cd_387_703 rfl (by omega) ?_
  refine r_arrS (i := i + 1) cd_387_704 rfl rfl rfl (by omega) (by omega) ?_
  refine r_aldC cd_387_705 rfl rfl ?_
  refine r_ild cd_387_706 rfl rfl ?_
  refine r_con (v := 2) cd_387_708 rfl (by decide) ?_
  refine r_add (v := ((i + 2 : Nat) : Int)) cd_387_709 rfl (by omega) ?_
  refine r_arrS (i := i + 2) cd_387_710 rfl rfl rfl (by omega) (by omega) ?_
  refine r_aldC cd_387_711 rfl rfl ?_
  refine r_ild cd_387_712 rfl rfl ?_
  refine r_con (v := 3) cd_387_714 rfl (by decide) ?_
  refine r_add (v := ((i + 3 : Nat) : Int)) cd_387_715 rfl (by omega) ?_
  refine r_arrS (i := i + 3) cd_387_716 rfl rfl rfl (by omega) (by omega) ?_
  refine r_aldR cd_387_717 rfl rfl ?_
  refine r_dI (k1 := 4) (k2 := 24) (kc' := kc + 4) (ks' := ks + 24) c1 cd_387_718 rfl rfl rfl True.intro rfl rfl rfl rfl (mbk (by omega)) (mbs (by omega)) rfl ?_
  refine r_ist cd_387_721 rfl rfl (L' := [aC 0, aR 0, aR 226, aR 236, aI ((i : Nat) : Int), aI cd, v6, v7, v8]) rfl ?_
  refine r_aldR cd_387_723 rfl rfl ?_
  refine r_aldC cd_387_724 rfl rfl ?_
  refine r_ild cd_387_725 rfl rfl ?_
  refine r_con (v := 1) cd_387_727 rfl (by decide) ?_
  refine r_add (v := ((i + 1 : Nat) : Int)) cd_387_728 rfl (by omega) ?_
  refine r_arrS (i := i + 1) cd_387_729 rfl rfl rfl (by rw [e1]; omega) (by rw [e1]; omega) ?_
  refine r_aldC cd_387_730 rfl rfl ?_
  refine r_ild cd_387_731 rfl rfl ?_
  refine r_con (v := 2) cd_387_733 rfl (by decide) ?_
  refine r_add (v := ((i + 2 : Nat) : Int)) cd_387_734 rfl (by omega) ?_
  refine r_arrS (i := i + 2) cd_387_735 rfl rfl rfl (by rw [e1]; omega) (by rw [e1]; omega) ?_
  refine r_aldC cd_387_736 rfl rfl ?_
  refine r_ild cd_387_737 rfl rfl ?_
  refine r_con (v := 3) cd_387_739 rfl (by decide) ?_
  refine r_add (v := ((i + 3 : Nat) : Int)) cd_387_740 rfl (by omega) ?_
  refine r_arrS (i := i + 3) cd_387_741 rfl rfl rfl (by rw [e1]; omega) (by rw [e1]; omega) ?_
  refine r_cI c2 cd_387_742 rfl rfl rfl (rc0 m1 rfl) rfl rfl rfl ?_
  refine r_ist cd_387_745 rfl rfl (L' := [aC 0, aR 0, aR 226, aR 236, aI ((i : Nat) : Int), aI cd, aI b, v7, v8]) rfl ?_
  refine r_aldR cd_387_747 rfl rfl ?_
  refine r_cI j2.thr cd_387_748 rfl rfl rfl (rc0 m2 rfl) rfl rfl rfl ?_
  refine r_ild cd_387_751 rfl rfl ?_
  refine r_ic61e cd_387_753 rfl (rfl) ?_
  refine r_ild cd_387_758 rfl rfl ?_
  refine r_if52 cd_387_760 rfl ⟨by omega, by omega⟩ (fun n2 => ?_) (fun n2 => ?_)
  · refine r_aldR cd_387_763 rfl rfl ?_
    refine r_con (v := 0) cd_387_764 rfl (by decide) ?_
    refine r_lld (i := 0) cd_387_765 rfl o2 rfl (by omega) rfl ?_
    refine r_ild cd_387_766 rfl rfl ?_
    refine r_i2l cd_387_768 rfl ?_
    refine r_lcmp (v := 0) cd_387_769 rfl (lg_eq (hcb n2)) ?_
    refine r_if51 cd_387_770 rfl ⟨by omega, by omega⟩ (fun n3 => ?_) (fun n3 => ?_)
    · refine r_goto cd_387_775 ?_
      exact k
    · exact absurd n3 (by decide)
  · refine r_goto cd_387_775 ?_
    exact k
theorem la_8 (J : JJ h t g w ps kp T bu ek eo rl rp) (hi : i + 6 ≤ h.1.1) (hn : h.1.1 ≤ 3072) (hf : ∀ j, inR (h.1.2 j)) (hk : kc + 6 ≤ 601024) (hs : ks + 36 ≤ 7293034) : LW 778 h i kc ks v5 v6 v7 v8 := by
  obtain ⟨h0, -⟩ := id J.1
  obtain ⟨h1, h2, cd, b, g1, w1, ps1, kp1, T1, bu1, ek1, eo1, rl1, rp1, c1, ⟨s1, m1⟩, c2, j2, hcb, e2, hc0, hc3, e1⟩ := l_8 J (h.1.2 (i + 1)) (hf _) (h.1.2 (i + 2)) (hf _) (h.1.2 (i + 3)) (hf _) (h.1.2 (i + 4)) (hf _)
  rw [← e1] at c2
  obtain ⟨s2, m2⟩ := j2.mo
  have o2 := j2.2.2.2
  refine ⟨h2, _, _, _, _, _, _, _, _, _, _, _, kc + 6, ks + 36, aI cd, aI b, v7, v8, j2, e2, by omega, by omega, fun res k => ?_⟩
  refine r_aldR cd_387_778 rfl rfl ?_
  refine r_aldC cd_387_779 rfl rfl ?_
  refine r_ild cd_387_780 rfl rfl ?_
  refine r_con (v := 1) cd_387_782 rfl (by decide) ?_
  refine r_add (v := ((i + 1 : Nat) : Int)) cd_387_783 rfl (by omega) ?_
  refine r_arrS (i := i + 1) cd_387_784 rfl rfl rfl (by omega) (by omega) ?_
  refine r_aldC cd_387_785 rfl rfl ?_
  refine r_ild cd_387_786 rfl rfl ?_
  refine r_con (v := 2) cd_387_788 rfl (by decide) ?_
  refine r_add (v := ((i + 2 : Nat) : Int)) cd_387_789 rfl (by omega) ?_
  refine r_arrS (i := i + 2) cd_387_790 rfl rfl rfl (by omega) (by omega) ?_
  refine r_aldC cd_387_791 rfl rfl ?_
  refine r_ild cd_387_792 rfl rfl ?_
  refine r_con (v := 3) cd_387_794 rfl (by decide) ?_
  refine r_add (v := ((i + 3 : Nat) : Int)) cd_387_795 rfl (by omega) ?_
  refine r_arrS (i := i + 3) cd_387_796 rfl rfl rfl (by omega) (by omega) ?_
  refine r_aldC cd_387_797 rfl rfl ?_
  refine r_ild cd_387_798 rfl rfl ?_
  refine r_con (v := 4) cd_387_800 rfl (by decide) ?_
  refine r_add (v := ((i + 4 : Nat) : Int)) cd_387_801 rfl (by omega) ?_
  refine r_arrS (i := i + 4) cd_387_802 rfl rfl rfl (by omega) (by omega) ?_
  refine r_aldR cd_387_803 rfl rfl ?_
  refine r_dI (k1 := 6) (k2 := 36) (kc' := kc + 6) (ks' := ks + 36) c1 cd_387_804 rfl rfl rfl True.intro rfl rfl rfl rfl (mbk (by omega)) (mbs (by omega)) rfl ?_
  refine r_ist cd_387_807 rfl rfl (L' := [aC 0, aR 0, aR 226, aR 236, aI ((i : Nat) : Int), aI cd, v6, v7, v8]) rfl ?_
  refine r_aldR cd_387_809 rfl rfl ?_
  refine r_aldC cd_387_810 rfl rfl ?_
  refine r_ild cd_387_811 rfl rfl ?_
  refine r_con (v := 1) cd_387_813 rfl (by decide) ?_
  refine r_add (v := ((i + 1 : Nat) : Int)) cd_387_814 rfl (by omega) ?_
  refine r_arrS (i := i + 1) cd_387_815 rfl rfl rfl (by rw [e1]; omega) (by rw [e1]; omega) ?_
  refine r_aldC cd_387_816 rfl rfl ?_
  refine r_ild cd_387_817 rfl rfl ?_
  refine r_con (v := 2) cd_387_819 rfl (by decide) ?_
  refine r_add (v := ((i + 2 : Nat) : Int)) cd_387_820 rfl (by omega) ?_
  refine r_arrS (i := i + 2) cd_387_821 rfl rfl rfl (by rw [e1]; omega) (by rw [e1]; omega) ?_
  refine r_aldC cd_387_822 rfl rfl ?_
  refine r_ild cd_387_823 rfl rfl ?_
  refine r_con (v := 3) cd_387_825 rfl (by decide) ?_
  refine r_add (v := ((i + 3 : Nat) : Int)) cd_387_826 rfl (by omega) ?_
  refine r_arrS (i := i + 3) cd_387_827 rfl rfl rfl (by rw [e1]; omega) (by rw [e1]; omega) ?_
  refine r_aldC cd_387_828 rfl rfl ?_
  refine r_ild cd_387_829 rfl rfl ?_
  refine r_con (v := 4) cd_387_831 rfl (by decide) ?_
  refine r_add (v := ((i + 4 : Nat) : Int)) cd_387_832 rfl (by omega) ?_
  refine r_arrS (i := i + 4) cd_387_833 rfl rfl rfl (by rw [e1]; omega) (by rw [e1]; omega) ?_
  refine r_cI c2 cd_387_834 rfl rfl rfl (rc0 m1 rfl) rfl rfl rfl ?_
  refine r_ist cd_387_837 rfl rfl (L' := [aC 0, aR 0, aR 226, aR 236, aI ((i : Nat) : Int), aI cd, aI b, v7, v8]) rfl ?_
  refine r_aldR cd_387_839 rfl rfl ?_
  refine r_cI j2.thr cd_387_840 rfl rfl rfl (rc0 m2 rfl) rfl rfl rfl ?_
  refine r_ild cd_387_843 rfl rfl ?_
  refine r_ic61e cd_387_845 rfl (rfl) ?_
  refine r_ild cd_387_850 rfl rfl ?_
  refine r_if52 cd_387_852 rfl ⟨by omega, by omega⟩ (fun n2 => ?_) (fun n2 => ?_)
  · refine r_aldR cd_387_855 rfl rfl ?_
    refine r_con (v := 0) cd_387_856 rfl (by decide) ?_
    refine r_lld (i := 0) cd_387_857 rfl o2 rfl (by omega) rfl ?_
    refine r_ild cd_387_858 rfl rfl ?_
    refine r_i2l cd_387_860 rfl ?_
    refine r_lcmp (v := 0) cd_387_861 rfl (lg_eq (hcb n2)) ?_
    refine r_if51 cd_387_862 rfl ⟨by omega, by omega⟩ (fun n3 => ?_) (fun n3 => ?_)
    · refine r_goto cd_387_867 ?_
      exact k
    · exact absurd n3 (by decide)
  · refine r_goto cd_387_867 ?_
    exact k
theorem la_9 (J : JJ h t g w ps kp T bu ek eo rl rp) (hi : i + 6 ≤ h.1.1) (hn : h.1.1 ≤ 3072) (hf : ∀ j, inR (h.1.2 j)) (hk : kc + 6 ≤ 601024) (hs : ks + 36 ≤ 7293034) : LW 870 h i kc ks v5 v6 v7 v8 := by
  obtain ⟨h0, -⟩ := id J.1
  obtain ⟨h1, h2, cd, b, g1, w1, ps1, kp1, T1, bu1, ek1, eo1, rl1, rp1, c1, ⟨s1, m1⟩, c2, j2, hcb, e2, hc0, hc3, e1⟩ := l_9 J (h.1.2 (i + 1)) (hf _) (h.1.2 (i + 2)) (hf _)
  rw [← e1] at c2
  obtain ⟨s2, m2⟩ := j2.mo
  have o2 := j2.2.2.2
  refine ⟨h2, _, _, _, _, _, _, _, _, _, _, _, kc + 3, ks + 18, aI cd, aI b, v7, v8, j2, e2, by omega, by omega, fun res k => ?_⟩
  refine r_aldR cd_387_870 rfl rfl ?_
  refine r_aldC cd_387_871 rfl rfl ?_
  refine r_ild cd_387_872 rfl rfl ?_
  refine r_con (v := 1) cd_387_874 rfl (by decide) ?_
  refine r_add (v := ((i + 1 : Nat) : Int)) cd_387_875 rfl (by omega) ?_
  refine r_arrS (i := i + 1) cd_387_876 rfl rfl rfl (by omega) (by omega) ?_
  refine r_aldC cd_387_877 rfl rfl ?_
  refine r_ild cd_387_878 rfl rfl ?_
  refine r_con (v := 2) cd_387_880 rfl (by decide) ?_
  refine r_add (v := ((i + 2 : Nat) : Int)) cd_387_881 rfl (by omega) ?_
  refine r_arrS (i := i + 2) cd_387_882 rfl rfl rfl (by omega) (by omega) ?_
  refine r_aldR cd_387_883 rfl rfl ?_
  refine r_dI (k1 := 3) (k2 := 18) (kc' := kc + 3) (ks' := ks + 18) c1 cd_387_884 rfl rfl rfl True.intro rfl rfl rfl rfl (mbk (by omega)) (mbs (by omega)) rfl ?_
  refine r_ist cd_387_887 rfl rfl (L' := [aC 0, aR 0, aR 226, aR 236, aI ((i : Nat) : Int), aI cd, v6, v7, v8]) rfl ?_
  refine r_aldR cd_387_889 rfl rfl ?_
  refine r_aldC cd_387_890 rfl rfl ?_
  refine r_ild cd_387_891 rfl rfl ?_
  refine r_con (v := 1) cd_387_893 rfl (by decide) ?_
  refine r_add (v := ((i + 1 : Nat) : Int)) cd_387_894 rfl (by omega) ?_
  refine r_arrS (i := i + 1) cd_387_895 rfl rfl rfl (by rw [e1]; omega) (by rw [e1]; omega) ?_
  refine r_aldC cd_387_896 rfl rfl ?_
  refine r_ild cd_387_897 rfl rfl ?_
  refine r_con (v := 2) cd_387_899 rfl (by decide) ?_
  refine r_add (v := ((i + 2 : Nat) : Int)) cd_387_900 rfl (by omega) ?_
  refine r_arrS (i := i + 2) cd_387_901 rfl rfl rfl (by rw [e1]; omega) (by rw [e1]; omega) ?_
  refine r_cI c2 cd_387_902 rfl rfl rfl (rc0 m1 rfl) rfl rfl rfl ?_
  refine r_ist cd_387_905 rfl rfl (L' := [aC 0, aR 0, aR 226, aR 236, aI ((i : Nat) : Int), aI cd, aI b, v7, v8]) rfl ?_
  refine r_aldR cd_387_907 rfl rfl ?_
  refine r_cI j2.thr cd_387_908 rfl rfl rfl (rc0 m2 rfl) rfl rfl rfl ?_
  refine r_ild cd_387_911 rfl rfl ?_
  refine r_ic61e cd_387_913 rfl (rfl) ?_
  refine r_ild cd_387_918 rfl rfl ?_
  refine r_if52 cd_387_920 rfl ⟨by omega, by omega⟩ (fun n2 => ?_) (fun n2 => ?_)
  · refine r_aldR cd_387_923 rfl rfl ?_
    refine r_con (v := 0) cd_387_924 rfl (by decide) ?_
    refine r_lld (i := 0) cd_387_925 rfl o2 rfl (by omega) rfl ?_
    refine r_ild cd_387_926 rfl rfl ?_
    refine r_i2l cd_387_928 rfl ?_
    refine r_lcmp (v := 0) cd_387_929 rfl (lg_eq (hcb n2)) ?_
    refine r_if51 cd_387_930 rfl ⟨by omega, by omega⟩ (fun n3 => ?_) (fun n3 => ?_)
    · refine r_goto cd_387_935 ?_
      exact k
    · exact absurd n3 (by decide)
  · refine r_goto cd_387_935 ?_
    exact k
theorem la_10 (J : JJ h t g w ps kp T bu ek eo rl rp) (hi : i + 6 ≤ h.1.1) (hn : h.1.1 ≤ 3072) (hf : ∀ j, inR (h.1.2 j)) (hk : kc + 6 ≤ 601024) (hs : ks + 36 ≤ 7293034) : LW 938 h i kc ks v5 v6 v7 v8 := by
  obtain ⟨h0, -⟩ := id J.1
  obtain ⟨h1, h2, cd, b, g1, w1, ps1, kp1, T1, bu1, ek1, eo1, rl1, rp1, c1, ⟨s1, m1⟩, c2, j2, hcb, e2, hc0, hc3, e1⟩ := l_10 J (h.1.2 (i + 1)) (hf _)
  rw [← e1] at c2
  obtain ⟨s2, m2⟩ := j2.mo
  have o2 := j2.2.2.2
  refine ⟨h2, _, _, _, _, _, _, _, _, _, _, _, kc + 2, ks + 12, aI cd, aI b, v7, v8, j2, e2, by omega, by omega, fun res k => ?_⟩
  refine r_aldR cd_387_938 rfl rfl ?_
  refine r_aldC cd_387_939 rfl rfl ?_
  refine r_ild cd_387_940 rfl rfl ?_
  refine r_con (v := 1) cd_387_942 rfl (by decide) ?_
  refine r_add (v := ((i + 1 : Nat) : Int)) cd_387_943 rfl (by omega) ?_
  refine r_arrS (i := i + 1) cd_387_944 rfl rfl rfl (by omega) (by omega) ?_
  refine r_aldR cd_387_945 rfl rfl ?_
  refine r_dI (k1 := 2) (k2 := 12) (kc' := kc + 2) (ks' := ks + 12) c1 cd_387_946 rfl rfl rfl True.intro rfl rfl rfl rfl (mbk (by omega)) (mbs (by omega)) rfl ?_
  refine r_ist cd_387_949 rfl rfl (L' := [aC 0, aR 0, aR 226, aR 236, aI ((i : Nat) : Int), aI cd, v6, v7, v8]) rfl ?_
  refine r_aldR cd_387_951 rfl rfl ?_
  refine r_aldC cd_387_952 rfl rfl ?_
  refine r_ild cd_387_953 rfl rfl ?_
  refine r_con (v := 1) cd_387_955 rfl (by decide) ?_
  refine r_add (v := ((i + 1 : Nat) : Int)) cd_387_956 rfl (by omega) ?_
  refine r_arrS (i := i + 1) cd_387_957 rfl rfl rfl (by rw [e1]; omega) (by rw [e1]; omega) ?_
  refine r_cI c2 cd_387_958 rfl rfl rfl (rc0 m1 rfl) rfl rfl rfl ?_
  refine r_ist cd_387_961 rfl rfl (L' := [aC 0, aR 0, aR 226, aR 236, aI ((i : Nat) : Int), aI cd, aI b, v7, v8]) rfl ?_
  refine r_aldR cd_387_963 rfl rfl ?_
  refine r_cI j2.thr cd_387_964 rfl rfl rfl (rc0 m2 rfl) rfl rfl rfl ?_
  refine r_ild cd_387_967 rfl rfl ?_
  refine r_ic61e cd_387_969 rfl (rfl) ?_
  refine r_ild cd_387_974 rfl rfl ?_
  refine r_if52 cd_387_976 rfl ⟨by omega, by omega⟩ (fun n2 => ?_) (fun n2 => ?_)
  · refine r_aldR cd_387_979 rfl rfl ?_
    refine r_con (v := 0) cd_387_980 rfl (by decide) ?_
    refine r_lld (i := 0) cd_387_981 rfl o2 rfl (by omega) rfl ?_
    refine r_ild cd_387_982 rfl rfl ?_
    refine r_i2l cd_387_984 rfl ?_
    refine r_lcmp (v := 0) cd_387_985 rfl (lg_eq (hcb n2)) ?_
    refine r_if51 cd_387_986 rfl ⟨by omega, by omega⟩ (fun n3 => ?_) (fun n3 => ?_)
    · refine r_goto cd_387_991 ?_
      exact k
    · exact absurd n3 (by decide)
  · refine r_goto cd_387_991 ?_
    exact k
theorem la_11 (J : JJ h t g w ps kp T bu ek eo rl rp) (hi : i + 6 ≤ h.1.1) (hn : h.1.1 ≤ 3072) (hf : ∀ j, inR (h.1.2 j)) (hk : kc + 6 ≤ 601024) (hs : ks + 36 ≤ 7293034) : LW 994 h i kc ks v5 v6 v7 v8 := by
  obtain ⟨h0, -⟩ := id J.1
  obtain ⟨h1, h2, cd, b, g1, w1, ps1, kp1, T1, bu1, ek1, eo1, rl1, rp1, c1, ⟨s1, m1⟩, c2, j2, hcb, e2, hc0, hc3, e1⟩ := l_11 J (h.1.2 (i + 1)) (hf _)
  rw [← e1] at c2
  obtain ⟨s2, m2⟩ := j2.mo
  have o2 := j2.2.2.2
  refine ⟨h2, _, _, _, _, _, _, _, _, _, _, _, kc + 2, ks + 12, aI cd, aI b, v7, v8, j2, e2, by omega, by omega, fun res k => ?_⟩
  refine r_aldR cd_387_994 rfl rfl ?_
  refine r_aldC cd_387_995 rfl rfl ?_
  refine r_ild cd_387_996 rfl rfl ?_
  refine r_con (v := 1) cd_387_998 rfl (by decide) ?_
  refine r_add (v := ((i + 1 : Nat) : Int)) cd_387_999 rfl (by omega) ?_
  refine r_arrS (i := i + 1) cd_387_1000 rfl rfl rfl (by omega) (by omega) ?_
  refine r_aldR cd_387_1001 rfl rfl ?_
  refine r_dI (k1 := 2) (k2 := 12) (kc' := kc + 2) (ks' := ks + 12) c1 cd_387_1002 rfl rfl rfl True.intro rfl rfl rfl rfl (mbk (by omega)) (mbs (by omega)) rfl ?_
  refine r_ist cd_387_1005 rfl rfl (L' := [aC 0, aR 0, aR 226, aR 236, aI ((i : Nat) : Int), aI cd, v6, v7, v8]) rfl ?_
  refine r_aldR cd_387_1007 rfl rfl ?_
  refine r_aldC cd_387_1008 rfl rfl ?_
  refine r_ild cd_387_1009 rfl rfl ?_
  refine r_con (v := 1) cd_387_1011 rfl (by decide) ?_
  refine r_add (v := ((i + 1 : Nat) : Int)) cd_387_1012 rfl (by omega) ?_
  refine r_arrS (i := i + 1) cd_387_1013 rfl rfl rfl (by rw [e1]; omega) (by rw [e1]; omega) ?_
  refine r_cI c2 cd_387_1014 rfl rfl rfl (rc0 m1 rfl) rfl rfl rfl ?_
  refine r_ist cd_387_1017 rfl rfl (L' := [aC 0, aR 0, aR 226, aR 236, aI ((i : Nat) : Int), aI cd, aI b, v7, v8]) rfl ?_
  refine r_aldR cd_387_1019 rfl rfl ?_
  refine r_cI j2.thr cd_387_1020 rfl rfl rfl (rc0 m2 rfl) rfl rfl rfl ?_
  refine r_ild cd_387_1023 rfl rfl ?_
  refine r_ic61e cd_387_1025 rfl (rfl) ?_
  refine r_ild cd_387_1030 rfl rfl ?_
  refine r_if52 cd_387_1032 rfl ⟨by omega, by omega⟩ (fun n2 => ?_) (fun n2 => ?_)
  · refine r_aldR cd_387_1035 rfl rfl ?_
    refine r_con (v := 0) cd_387_1036 rfl (by decide) ?_
    refine r_lld (i := 0) cd_387_1037 rfl o2 rfl (by omega) rfl ?_
    refine r_ild cd_387_1038 rfl rfl ?_
    refine r_i2l cd_387_1040 rfl ?_
    refine r_lcmp (v := 0) cd_387_1041 rfl (lg_eq (hcb n2)) ?_
    refine r_if51 cd_387_1042 rfl ⟨by omega, by omega⟩ (fun n3 => ?_) (fun n3 => ?_)
    · refine r_goto cd_387_1047 ?_
      exact k
    · exact absurd n3 (by decide)
  · refine r_goto cd_387_1047 ?_
    exact k
theorem la_12 (J : JJ h t g w ps kp T bu ek eo rl rp) (hi : i + 6 ≤ h.1.1) (hn : h.1.1 ≤ 3072) (hf : ∀ j, inR (h.1.2 j)) (hk : kc + 6 ≤ 601024) (hs : ks + 36 ≤ 7293034) : LW 1050 h i kc ks v5 v6 v7 v8 := by
  obtain ⟨h0, -⟩ := id J.1
  obtain ⟨h1, h2, cd, b, g1, w1, ps1, kp1, T1, bu1, ek1, eo1, rl1, rp1, c1, ⟨s1, m1⟩, c2, j2, hcb, e2, hc0, hc3, e1⟩ := l_12 J (h.1.2 (i + 1)) (hf _)
  rw [← e1] at c2
  obtain ⟨s2, m2⟩ := j2.mo
  have o2 := j2.2.2.2
  refine ⟨h2, _, _, _, _, _, _, _, _, _, _, _, kc + 2, ks + 12, aI cd, aI b, v7, v8, j2, e2, by omega, by omega, fun res k => ?_⟩
  refine r_aldR cd_387_1050 rfl rfl ?_
  refine r_aldC cd_387_1051 rfl rfl ?_
  refine r_ild cd_387_1052 rfl rfl ?_
  refine r_con (v := 1) cd_387_1054 rfl (by decide) ?_
  refine r_add (v := ((i + 1 : Nat) : Int)) cd_387_1055 rfl (by omega) ?_
  refine r_arrS (i := i + 1) cd_387_1056 rfl rfl rfl (by omega) (by omega) ?_
  refine r_aldR cd_387_1057 rfl rfl ?_
  refine r_dI (k1 := 2) (k2 := 12) (kc' := kc + 2) (ks' := ks + 12) c1 cd_387_1058 rfl rfl rfl True.intro rfl rfl rfl rfl (mbk (by omega)) (mbs (by omega)) rfl ?_
  refine r_ist cd_387_1061 rfl rfl (L' := [aC 0, aR 0, aR 226, aR 236, aI ((i : Nat) : Int), aI cd, v6, v7, v8]) rfl ?_
  refine r_aldR cd_387_1063 rfl rfl ?_
  refine r_aldC cd_387_1064 rfl rfl ?_
  refine r_ild cd_387_1065 rfl rfl ?_
  refine r_con (v := 1) cd_387_1067 rfl (by decide) ?_
  refine r_add (v := ((i + 1 : Nat) : Int)) cd_387_1068 rfl (by omega) ?_
  refine r_arrS (i := i + 1) cd_387_1069 rfl rfl rfl (by rw [e1]; omega) (by rw [e1]; omega) ?_
  refine r_cI c2 cd_387_1070 rfl rfl rfl (rc0 m1 rfl) rfl rfl rfl ?_
  refine r_ist cd_387_1073 rfl rfl (L' := [aC 0, aR 0, aR 226, aR 236, aI ((i : Nat) : Int), aI cd, aI b, v7, v8]) rfl ?_
  refine r_aldR cd_387_1075 rfl rfl ?_
  refine r_cI j2.thr cd_387_1076 rfl rfl rfl (rc0 m2 rfl) rfl rfl rfl ?_
  refine r_ild cd_387_1079 rfl rfl ?_
  refine r_ic61e cd_387_1081 rfl (rfl) ?_
  refine r_ild cd_387_1086 rfl rfl ?_
  refine r_if52 cd_387_1088 rfl ⟨by omega, by omega⟩ (fun n2 => ?_) (fun n2 => ?_)
  · refine r_aldR cd_387_1091 rfl rfl ?_
    refine r_con (v := 0) cd_387_1092 rfl (by decide) ?_
    refine r_lld (i := 0) cd_387_1093 rfl o2 rfl (by omega) rfl ?_
    refine r_ild cd_387_1094 rfl rfl ?_
    refine r_i2l cd_387_1096 rfl ?_
    refine r_lcmp (v := 0) cd_387_1097 rfl (lg_eq (hcb n2)) ?_
    refine r_if51 cd_387_1098 rfl ⟨by omega, by omega⟩ (fun n3 => ?_) (fun n3 => ?_)
    · refine r_goto cd_387_1103 ?_
      exact k
    · exact absurd n3 (by decide)
  · refine r_goto cd_387_1103 ?_
    exact k
theorem la_13 (J : JJ h t g w ps kp T bu ek eo rl rp) (hi : i + 6 ≤ h.1.1) (hn : h.1.1 ≤ 3072) (hf : ∀ j, inR (h.1.2 j)) (hk : kc + 6 ≤ 601024) (hs : ks + 36 ≤ 7293034) : LW 1106 h i kc ks v5 v6 v7 v8 := by
  obtain ⟨h0, -⟩ := id J.1
  obtain ⟨h1, h2, cd, b, g1, w1, ps1, kp1, T1, bu1, ek1, eo1, rl1, rp1, c1, ⟨s1, m1⟩, c2, j2, hcb, e2, hc0, hc3, e1⟩ := l_13 J (h.1.2 (i + 1)) (hf _)
  rw [← e1] at c2
  obtain ⟨s2, m2⟩ := j2.mo
  have o2 := j2.2.2.2
  refine ⟨h2, _, _, _, _, _, _, _, _, _, _, _, kc + 2, ks + 12, aI cd, aI b, v7, v8, j2, e2, by omega, by omega, fun res k => ?_⟩
  refine r_aldR cd_387_1106 rfl rfl ?_
  refine r_aldC cd_387_1107 rfl rfl ?_
  refine r_ild cd_387_1108 rfl rfl ?_
  refine r_con (v := 1) cd_387_1110 rfl (by decide) ?_
  refine r_add (v := ((i + 1 : Nat) : Int)) cd_387_1111 rfl (by omega) ?_
  refine r_arrS (i := i + 1) cd_387_1112 rfl rfl rfl (by omega) (by omega) ?_
  refine r_aldR cd_387_1113 rfl rfl ?_
  refine r_dI (k1 := 2) (k2 := 12) (kc' := kc + 2) (ks' := ks + 12) c1 cd_387_1114 rfl rfl rfl True.intro rfl rfl rfl rfl (mbk (by omega)) (mbs (by omega)) rfl ?_
  refine r_ist cd_387_1117 rfl rfl (L' := [aC 0, aR 0, aR 226, aR 236, aI ((i : Nat) : Int), aI cd, v6, v7, v8]) rfl ?_
  refine r_aldR cd_387_1119 rfl rfl ?_
  refine r_aldC cd_387_1120 rfl rfl ?_
  refine r_ild cd_387_1121 rfl rfl ?_
  refine r_con (v := 1) cd_387_1123 rfl (by decide) ?_
  refine r_add (v := ((i + 1 : Nat) : Int)) cd_387_1124 rfl (by omega) ?_
  refine r_arrS (i := i + 1) cd_387_1125 rfl rfl rfl (by rw [e1]; omega) (by rw [e1]; omega) ?_
  refine r_cI c2 cd_387_1126 rfl rfl rfl (rc0 m1 rfl) rfl rfl rfl ?_
  refine r_ist cd_387_1129 rfl rfl (L' := [aC 0, aR 0, aR 226, aR 236, aI ((i : Nat) : Int), aI cd, aI b, v7, v8]) rfl ?_
  refine r_aldR cd_387_1131 rfl rfl ?_
  refine r_cI j2.thr cd_387_1132 rfl rfl rfl (rc0 m2 rfl) rfl rfl rfl ?_
  refine r_ild cd_387_1135 rfl rfl ?_
  refine r_ic61e cd_387_1137 rfl (rfl) ?_
  refine r_ild cd_387_1142 rfl rfl ?_
  refine r_if52 cd_387_1144 rfl ⟨by omega, by omega⟩ (fun n2 => ?_) (fun n2 => ?_)
  · refine r_aldR cd_387_1147 rfl rfl ?_
    refine r_con (v := 0) cd_387_1148 rfl (by decide) ?_
    refine r_lld (i := 0) cd_387_1149 rfl o2 rfl (by omega) rfl ?_
    refine r_ild cd_387_1150 rfl rfl ?_
    refine r_i2l cd_387_1152 rfl ?_
    refine r_lcmp (v := 0) cd_387_1153 rfl (lg_eq (hcb n2)) ?_
    refine r_if51 cd_387_1154 rfl ⟨by omega, by omega⟩ (fun n3 => ?_) (fun n3 => ?_)
    · refine r_goto cd_387_1159 ?_
      exact k
    · exact absurd n3 (by decide)
  · refine r_goto cd_387_1159 ?_
    exact k
theorem la_14 (J : JJ h t g w ps kp T bu ek eo rl rp) (hi : i + 6 ≤ h.1.1) (hn : h.1.1 ≤ 3072) (hf : ∀ j, inR (h.1.2 j)) (hk : kc + 6 ≤ 601024) (hs : ks + 36 ≤ 7293034) : LW 1162 h i kc ks v5 v6 v7 v8 := by
  obtain ⟨h0, -⟩ := id J.1
  obtain ⟨h1, h2, cd, b, g1, w1, ps1, kp1, T1, bu1, ek1, eo1, rl1, rp1, c1, ⟨s1, m1⟩, c2, j2, hcb, e2, hc0, hc3, e1⟩ := l_14 J (h.1.2 (i + 1)) (hf _) (h.1.2 (i + 2)) (hf _)
  rw [← e1] at c2
  obtain ⟨s2, m2⟩ := j2.mo
  have o2 := j2.2.2.2
  refine ⟨h2, _, _, _, _, _, _, _, _, _, _, _, kc + 3, ks + 18, aI cd, aI b, v7, v8, j2, e2, by omega, by omega, fun res k => ?_⟩
  refine r_aldR cd_387_1162 rfl rfl ?_
  refine r_aldC cd_387_1163 rfl rfl ?_
  refine r_ild cd_387_1164 rfl rfl ?_
  refine r_con (v := 1) cd_387_1166 rfl (by decide) ?_
  refine r_add (v := ((i + 1 : Nat) : Int)) cd_387_1167 rfl (by omega) ?_
  refine r_arrS (i := i + 1) cd_387_1168 rfl rfl rfl (by omega) (by omega) ?_
  refine r_aldC cd_387_1169 rfl rfl ?_
  refine r_ild cd_387_1170 rfl rfl ?_
  refine r_con (v := 2) cd_387_1172 rfl (by decide) ?_
  refine r_add (v := ((i + 2 : Nat) : Int)) cd_387_1173 rfl (by omega) ?_
  refine r_arrS (i := i + 2) cd_387_1174 rfl rfl rfl (by omega) (by omega) ?_
  refine r_aldR cd_387_1175 rfl rfl ?_
  refine r_dI (k1 := 3) (k2 := 18) (kc' := kc + 3) (ks' := ks + 18) c1 cd_387_1176 rfl rfl rfl True.intro rfl rfl rfl rfl (mbk (by omega)) (mbs (by omega)) rfl ?_
  refine r_ist cd_387_1179 rfl rfl (L' := [aC 0, aR 0, aR 226, aR 236, aI ((i : Nat) : Int), aI cd, v6, v7, v8]) rfl ?_
  refine r_aldR cd_387_1181 rfl rfl ?_
  refine r_aldC cd_387_1182 rfl rfl ?_
  refine r_ild cd_387_1183 rfl rfl ?_
  refine r_con (v := 1) cd_387_1185 rfl (by decide) ?_
  refine r_add (v := ((i + 1 : Nat) : Int)) cd_387_1186 rfl (by omega) ?_
  refine r_arrS (i := i + 1) cd_387_1187 rfl rfl rfl (by rw [e1]; omega) (by rw [e1]; omega) ?_
  refine r_aldC cd_387_1188 rfl rfl ?_
  refine r_ild cd_387_1189 rfl rfl ?_
  refine r_con (v := 2) cd_387_1191 rfl (by decide) ?_
  refine r_add (v := ((i + 2 : Nat) : Int)) cd_387_1192 rfl (by omega) ?_
  refine r_arrS (i := i + 2) cd_387_1193 rfl rfl rfl (by rw [e1]; omega) (by rw [e1]; omega) ?_
  refine r_cI c2 cd_387_1194 rfl rfl rfl (rc0 m1 rfl) rfl rfl rfl ?_
  refine r_ist cd_387_1197 rfl rfl (L' := [aC 0, aR 0, aR 226, aR 236, aI ((i : Nat) : Int), aI cd, aI b, v7, v8]) rfl ?_
  refine r_aldR cd_387_1199 rfl rfl ?_
  refine r_cI j2.thr cd_387_1200 rfl rfl rfl (rc0 m2 rfl) rfl rfl rfl ?_
  refine r_ild cd_387_1203 rfl rfl ?_
  refine r_ic61e cd_387_1205 rfl (rfl) ?_
  refine r_ild cd_387_1210 rfl rfl ?_
  refine r_if52 cd_387_1212 rfl ⟨by omega, by omega⟩ (fun n2 => ?_) (fun n2 => ?_)
  · refine r_aldR cd_387_1215 rfl rfl ?_
    refine r_con (v := 0) cd_387_1216 rfl (by decide) ?_
    refine r_lld (i := 0) cd_387_1217 rfl o2 rfl (by omega) rfl ?_
    refine r_ild cd_387_1218 rfl rfl ?_
    refine r_i2l cd_387_1220 rfl ?_
    refine r_lcmp (v := 0) cd_387_1221 rfl (lg_eq (hcb n2)) ?_
    refine r_if51 cd_387_1222 rfl ⟨by omega, by omega⟩ (fun n3 => ?_) (fun n3 => ?_)
    · refine r_goto cd_387_1227 ?_
      exact k
    · exact absurd n3 (by decide)
  · refine r_goto cd_387_1227 ?_
    exact k
theorem la_15 (J : JJ h t g w ps kp T bu ek eo rl rp) (hi : i + 6 ≤ h.1.1) (hn : h.1.1 ≤ 3072) (hf : ∀ j, inR (h.1.2 j)) (hk : kc + 6 ≤ 601024) (hs : ks + 36 ≤ 7293034) : LW 1230 h i kc ks v5 v6 v7 v8 := by
  obtain ⟨h0, -⟩ := id J.1
  obtain ⟨h1, h2, cd, b, g1, w1, ps1, kp1, T1, bu1, ek1, eo1, rl1, rp1, c1, ⟨s1, m1⟩, c2, j2, hcb, e2, hc0, hc3, e1⟩ := l_15 J (h.1.2 (i + 1)) (hf _)
  rw [← e1] at c2
  obtain ⟨s2, m2⟩ := j2.mo
  have o2 := j2.2.2.2
  refine ⟨h2, _, _, _, _, _, _, _, _, _, _, _, kc + 2, ks + 12, aI cd, aI b, v7, v8, j2, e2, by omega, by omega, fun res k => ?_⟩
  refine r_aldR cd_387_1230 rfl rfl ?_
  refine r_aldC cd_387_1231 rfl rfl ?_
  refine r_ild cd_387_1232 rfl rfl ?_
  refine r_con (v := 1) cd_387_1234 rfl (by decide) ?_
  refine r_add (v := ((i + 1 : Nat) : Int)) cd_387_1235 rfl (by omega) ?_
  refine r_arrS (i := i + 1) cd_387_1236 rfl rfl rfl (by omega) (by omega) ?_
  refine r_aldR cd_387_1237 rfl rfl ?_
  refine r_dI (k1 := 2) (k2 := 12) (kc' := kc + 2) (ks' := ks + 12) c1 cd_387_1238 rfl rfl rfl True.intro rfl rfl rfl rfl (mbk (by omega)) (mbs (by omega)) rfl ?_
  refine r_ist cd_387_1241 rfl rfl (L' := [aC 0, aR 0, aR 226, aR 236, aI ((i : Nat) : Int), aI cd, v6, v7, v8]) rfl ?_
  refine r_aldR cd_387_1243 rfl rfl ?_
  refine r_aldC cd_387_1244 rfl rfl ?_
  refine r_ild cd_387_1245 rfl rfl ?_
  refine r_con (v := 1) cd_387_1247 rfl (by decide) ?_
  refine r_add (v := ((i + 1 : Nat) : Int)) cd_387_1248 rfl (by omega) ?_
  refine r_arrS (i := i + 1) cd_387_1249 rfl rfl rfl (by rw [e1]; omega) (by rw [e1]; omega) ?_
  refine r_cI c2 cd_387_1250 rfl rfl rfl (rc0 m1 rfl) rfl rfl rfl ?_
  refine r_ist cd_387_1253 rfl rfl (L' := [aC 0, aR 0, aR 226, aR 236, aI ((i : Nat) : Int), aI cd, aI b, v7, v8]) rfl ?_
  refine r_aldR cd_387_1255 rfl rfl ?_
  refine r_cI j2.thr cd_387_1256 rfl rfl rfl (rc0 m2 rfl) rfl rfl rfl ?_
  refine r_ild cd_387_1259 rfl rfl ?_
  refine r_ic61e cd_387_1261 rfl (rfl) ?_
  refine r_ild cd_387_1266 rfl rfl ?_
  refine r_if52 cd_387_1268 rfl ⟨by omega, by omega⟩ (fun n2 => ?_) (fun n2 => ?_)
  · refine r_aldR cd_387_1271 rfl rfl ?_
    refine r_con (v := 0) cd_387_1272 rfl (by decide) ?_
    refine r_lld (i := 0) cd_387_1273 rfl o2 rfl (by omega) rfl ?_
    refine r_ild cd_387_1274 rfl rfl ?_
    refine r_i2l cd_387_1276 rfl ?_
    refine r_lcmp (v := 0) cd_387_1277 rfl (lg_eq (hcb n2)) ?_
    refine r_if51 cd_387_1278 rfl ⟨by omega, by omega⟩ (fun n3 => ?_) (fun n3 => ?_)
    · refine r_goto cd_387_1283 ?_
      exact k
    · exact absurd n3 (by decide)
  · refine r_goto cd_387_1283 ?_
    exact k
theorem la_16 (J : JJ h t g w ps kp T bu ek eo rl rp) (hi : i + 6 ≤ h.1.1) (hn : h.1.1 ≤ 3072) (hf : ∀ j, inR (h.1.2 j)) (hk : kc + 6 ≤ 601024) (hs : ks + 36 ≤ 7293034) : LW 1286 h i kc ks v5 v6 v7 v8 := by
  obtain ⟨h0, -⟩ := id J.1
  obtain ⟨h1, h2, cd, b, g1, w1, ps1, kp1, T1, bu1, ek1, eo1, rl1, rp1, c1, ⟨s1, m1⟩, c2, j2, hcb, e2, hc0, hc3, e1⟩ := l_16 J (h.1.2 (i + 1)) (hf _) (h.1.2 (i + 2)) (hf _)
  rw [← e1] at c2
  obtain ⟨s2, m2⟩ := j2.mo
  have o2 := j2.2.2.2
  refine ⟨h2, _, _, _, _, _, _, _, _, _, _, _, kc + 3, ks + 18, aI cd, aI b, v7, v8, j2, e2, by omega, by omega, fun res k => ?_⟩
  refine r_aldR cd_387_1286 rfl rfl ?_
  refine r_aldC cd_387_1287 rfl rfl ?_
  refine r_ild cd_387_1288 rfl rfl ?_
  refine r_con (v := 1) cd_387_1290 rfl (by decide) ?_
  refine r_add (v := ((i + 1 : Nat) : Int)) cd_387_1291 rfl (by omega) ?_
  refine r_arrS (i := i + 1) cd_387_1292 rfl rfl rfl (by omega) (by omega) ?_
  refine r_aldC cd_387_1293 rfl rfl ?_
  refine r_ild cd_387_1294 rfl rfl ?_
  refine r_con (v := 2) cd_387_1296 rfl (by decide) ?_
  refine r_add (v := ((i + 2 : Nat) : Int)) cd_387_1297 rfl (by omega) ?_
  refine r_arrS (i := i + 2) cd_387_1298 rfl rfl rfl (by omega) (by omega) ?_
  refine r_aldR cd_387_1299 rfl rfl ?_
  refine r_dI (k1 := 3) (k2 := 18) (kc' := kc + 3) (ks' := ks + 18) c1 cd_387_1300 rfl rfl rfl True.intro rfl rfl rfl rfl (mbk (by omega)) (mbs (by omega)) rfl ?_
  refine r_ist cd_387_1303 rfl rfl (L' := [aC 0, aR 0, aR 226, aR 236, aI ((i : Nat) : Int), aI cd, v6, v7, v8]) rfl ?_
  refine r_aldR cd_387_1305 rfl rfl ?_
  refine r_aldC cd_387_1306 rfl rfl ?_
  refine r_ild cd_387_1307 rfl rfl ?_
  refine r_con (v := 1) cd_387_1309 rfl (by decide) ?_
  refine r_add (v := ((i + 1 : Nat) : Int)) cd_387_1310 rfl (by omega) ?_
  refine r_arrS (i := i + 1) cd_387_1311 rfl rfl rfl (by rw [e1]; omega) (by rw [e1]; omega) ?_
  refine r_aldC cd_387_1312 rfl rfl ?_
  refine r_ild cd_387_1313 rfl rfl ?_
  refine r_con (v := 2) cd_387_1315 rfl (by decide) ?_
  refine r_add (v := ((i + 2 : Nat) : Int)) cd_387_1316 rfl (by omega) ?_
  refine r_arrS (i := i + 2) cd_387_1317 rfl rfl rfl (by rw [e1]; omega) (by rw [e1]; omega) ?_
  refine r_cI c2 cd_387_1318 rfl rfl rfl (rc0 m1 rfl) rfl rfl rfl ?_
  refine r_ist cd_387_1321 rfl rfl (L' := [aC 0, aR 0, aR 226, aR 236, aI ((i : Nat) : Int), aI cd, aI b, v7, v8]) rfl ?_
  refine r_aldR cd_387_1323 rfl rfl ?_
  refine r_cI j2.thr cd_387_1324 rfl rfl rfl (rc0 m2 rfl) rfl rfl rfl ?_
  refine r_ild cd_387_1327 rfl rfl ?_
  refine r_ic61e cd_387_1329 rfl (rfl) ?_
  refine r_ild cd_387_1334 rfl rfl ?_
  refine r_if52 cd_387_1336 rfl ⟨by omega, by omega⟩ (fun n2 => ?_) (fun n2 => ?_)
  · refine r_aldR cd_387_1339 rfl rfl ?_
    refine r_con (v := 0) cd_387_1340 rfl (by decide) ?_
    refine r_lld (i := 0) cd_387_1341 rfl o2 rfl (by omega) rfl ?_
    refine r_ild cd_387_1342 rfl rfl ?_
    refine r_i2l cd_387_1344 rfl ?_
    refine r_lcmp (v := 0) cd_387_1345 rfl (lg_eq (hcb n2)) ?_
    refine r_if51 cd_387_1346 rfl ⟨by omega, by omega⟩ (fun n3 => ?_) (fun n3 => ?_)
    · refine r_goto cd_387_1351 ?_
      exact k
    · exact absurd n3 (by decide)
  · refine r_goto cd_387_1351 ?_
    exact k
theorem la_17 (J : JJ h t g w ps kp T bu ek eo rl rp) (hi : i + 6 ≤ h.1.1) (hn : h.1.1 ≤ 3072) (hf : ∀ j, inR (h.1.2 j)) (hk : kc + 6 ≤ 601024) (hs : ks + 36 ≤ 7293034) : LW 1354 h i kc ks v5 v6 v7 v8 := by
  obtain ⟨h0, -⟩ := id J.1
  obtain ⟨h1, h2, cd, b, g1, w1, ps1, kp1, T1, bu1, ek1, eo1, rl1, rp1, c1, ⟨s1, m1⟩, c2, j2, hcb, e2, hc0, hc3, e1⟩ := l_17 J (h.1.2 (i + 1)) (hf _)
  rw [← e1] at c2
  obtain ⟨s2, m2⟩ := j2.mo
  have o2 := j2.2.2.2
  refine ⟨h2, _, _, _, _, _, _, _, _, _, _, _, kc + 2, ks + 12, aI cd, aI b, v7, v8, j2, e2, by omega, by omega, fun res k => ?_⟩
  refine r_aldR cd_387_1354 rfl rfl ?_
  refine r_aldC cd_387_1355 rfl rfl ?_
  refine r_ild cd_387_1356 rfl rfl ?_
  refine r_con (v := 1) cd_387_1358 rfl (by decide) ?_
  refine r_add (v := ((i + 1 : Nat) : Int)) cd_387_1359 rfl (by omega) ?_
  refine r_arrS (i := i + 1) cd_387_1360 rfl rfl rfl (by omega) (by omega) ?_
  refine r_aldR cd_387_1361 rfl rfl ?_
  refine r_dI (k1 := 2) (k2 := 12) (kc' := kc + 2) (ks' := ks + 12) c1 cd_387_1362 rfl rfl rfl True.intro rfl rfl rfl rfl (mbk (by omega)) (mbs (by omega)) rfl ?_
  refine r_ist cd_387_1365 rfl rfl (L' := [aC 0, aR 0, aR 226, aR 236, aI ((i : Nat) : Int), aI cd, v6, v7, v8]) rfl ?_
  refine r_aldR cd_387_1367 rfl rfl ?_
  refine r_aldC cd_387_1368 rfl rfl ?_
  refine r_ild cd_387_1369 rfl rfl ?_
  refine r_con (v := 1) cd_387_1371 rfl (by decide) ?_
  refine r_add (v := ((i + 1 : Nat) : Int)) cd_387_1372 rfl (by omega) ?_
  refine r_arrS (i := i + 1) cd_387_1373 rfl rfl rfl (by rw [e1]; omega) (by rw [e1]; omega) ?_
  refine r_cI c2 cd_387_1374 rfl rfl rfl (rc0 m1 rfl) rfl rfl rfl ?_
  refine r_ist cd_387_1377 rfl rfl (L' := [aC 0, aR 0, aR 226, aR 236, aI ((i : Nat) : Int), aI cd, aI b, v7, v8]) rfl ?_
  refine r_aldR cd_387_1379 rfl rfl ?_
  refine r_cI j2.thr cd_387_1380 rfl rfl rfl (rc0 m2 rfl) rfl rfl rfl ?_
  refine r_ild cd_387_1383 rfl rfl ?_
  refine r_ic61e cd_387_1385 rfl (rfl) ?_
  refine r_ild cd_387_1390 rfl rfl ?_
  refine r_if52 cd_387_1392 rfl ⟨by omega, by omega⟩ (fun n2 => ?_) (fun n2 => ?_)
  · refine r_aldR cd_387_1395 rfl rfl ?_
    refine r_con (v := 0) cd_387_1396 rfl (by decide) ?_
    refine r_lld (i := 0) cd_387_1397 rfl o2 rfl (by omega) rfl ?_
    refine r_ild cd_387_1398 rfl rfl ?_
    refine r_i2l cd_387_1400 rfl ?_
    refine r_lcmp (v := 0) cd_387_1401 rfl (lg_eq (hcb n2)) ?_
    refine r_if51 cd_387_1402 rfl ⟨by omega, by omega⟩ (fun n3 => ?_) (fun n3 => ?_)
    · refine r_goto cd_387_1407 ?_
      exact k
    · exact absurd n3 (by decide)
  · refine r_goto cd_387_1407 ?_
    exact k
theorem la_18 (J : JJ h t g w ps kp T bu ek eo rl rp) (hi : i + 6 ≤ h.1.1) (hn : h.1.1 ≤ 3072) (hf : ∀ j, inR (h.1.2 j)) (hk : kc + 6 ≤ 601024) (hs : ks + 36 ≤ 7293034) : LW 1410 h i kc ks v5 v6 v7 v8 := by
  obtain ⟨h0, -⟩ := id J.1
  obtain ⟨h1, h2, v, t1, g1, w1, ps1, kp1, T1, bu1, ek1, eo1, rl1, rp1, c1, ⟨s1, m1⟩, c2, j2, e2, e1⟩ := l_18 J 
  obtain ⟨s2, m2⟩ := j2.mo
  have o2 := j2.2.2.2
  refine ⟨h2, _, _, _, _, _, _, _, _, _, _, _, kc, ks, v5, v6, v7, v8, j2, e2, by omega, by omega, fun res k => ?_⟩
  refine r_aldR cd_387_1410 rfl rfl ?_
  refine r_cI c1 cd_387_1411 rfl rfl rfl (rc0 h0 rfl) rfl rfl rfl ?_
  refine r_aldR cd_387_1414 rfl rfl ?_
  refine r_cI c2 cd_387_1415 rfl rfl rfl (rc0 m1 rfl) rfl rfl rfl ?_
  refine r_ic61e cd_387_1418 rfl (rfl) ?_
  exact k
theorem la_19 (J : JJ h t g w ps kp T bu ek eo rl rp) (hi : i + 6 ≤ h.1.1) (hn : h.1.1 ≤ 3072) (hf : ∀ j, inR (h.1.2 j)) (hk : kc + 6 ≤ 601024) (hs : ks + 36 ≤ 7293034) : LW 1423 h i kc ks v5 v6 v7 v8 := by
  obtain ⟨h0, -⟩ := id J.1
  obtain ⟨h1, h2, v, t1, g1, w1, ps1, kp1, T1, bu1, ek1, eo1, rl1, rp1, c1, ⟨s1, m1⟩, c2, j2, e2, e1⟩ := l_19 J 
  obtain ⟨s2, m2⟩ := j2.mo
  have o2 := j2.2.2.2
  refine ⟨h2, _, _, _, _, _, _, _, _, _, _, _, kc, ks, v5, v6, v7, v8, j2, e2, by omega, by omega, fun res k => ?_⟩
  refine r_aldR cd_387_1423 rfl rfl ?_
  refine r_cI c1 cd_387_1424 rfl rfl rfl (rc0 h0 rfl) rfl rfl rfl ?_
  refine r_aldR cd_387_1427 rfl rfl ?_
  refine r_cI c2 cd_387_1428 rfl rfl rfl (rc0 m1 rfl) rfl rfl rfl ?_
  refine r_ic61e cd_387_1431 rfl (rfl) ?_
  exact k
theorem la_20 (J : JJ h t g w ps kp T bu ek eo rl rp) (hi : i + 6 ≤ h.1.1) (hn : h.1.1 ≤ 3072) (hf : ∀ j, inR (h.1.2 j)) (hk : kc + 6 ≤ 601024) (hs : ks + 36 ≤ 7293034) : LW 1436 h i kc ks v5 v6 v7 v8 := by
  obtain ⟨h0, -⟩ := id J.1
  obtain ⟨h1, h2, v, t1, g1, w1, ps1, kp1, T1, bu1, ek1, eo1, rl1, rp1, c1, ⟨s1, m1⟩, c2, j2, e2, e1⟩ := l_20 J 
  obtain ⟨s2, m2⟩ := j2.mo
  have o2 := j2.2.2.2
  refine ⟨h2, _, _, _, _, _, _, _, _, _, _, _, kc, ks, v5, v6, v7, v8, j2, e2, by omega, by omega, fun res k => ?_⟩
  refine r_aldR cd_387_1436 rfl rfl ?_
  refine r_cI c1 cd_387_1437 rfl rfl rfl (rc0 h0 rfl) rfl rfl rfl ?_
  refine r_aldR cd_387_1440 rfl rfl ?_
  refine r_cI c2 cd_387_1441 rfl rfl rfl (rc0 m1 rfl) rfl rfl rfl ?_
  refine r_ic61e cd_387_1444 rfl (rfl) ?_
  exact k
theorem la_21 (J : JJ h t g w ps kp T bu ek eo rl rp) (hi : i + 6 ≤ h.1.1) (hn : h.1.1 ≤ 3072) (hf : ∀ j, inR (h.1.2 j)) (hk : kc + 6 ≤ 601024) (hs : ks + 36 ≤ 7293034) : LW 1449 h i kc ks v5 v6 v7 v8 := by
  obtain ⟨h0, -⟩ := id J.1
  obtain ⟨h1, h2, cd, b, g1, w1, ps1, kp1, T1, bu1, ek1, eo1, rl1, rp1, c1, ⟨s1, m1⟩, c2, j2, hcb, e2, hc0, hc3, e1⟩ := l_21 J 
  obtain ⟨s2, m2⟩ := j2.mo
  have o2 := j2.2.2.2
  refine ⟨h2, _, _, _, _, _, _, _, _, _, _, _, kc + 1, ks + 6, aI cd, aI b, v7, v8, j2, e2, by omega, by omega, fun res k => ?_⟩
  refine r_aldR cd_387_1449 rfl rfl ?_
  refine r_aldR cd_387_1450 rfl rfl ?_
  refine r_dI (k1 := 1) (k2 := 6) (kc' := kc + 1) (ks' := ks + 6) c1 cd_387_1451 rfl rfl rfl True.intro rfl rfl rfl rfl (mbk (by omega)) (mbs (by omega)) rfl ?_
  refine r_ist cd_387_1454 rfl rfl (L' := [aC 0, aR 0, aR 226, aR 236, aI ((i : Nat) : Int), aI cd, v6, v7, v8]) rfl ?_
  refine r_aldR cd_387_1456 rfl rfl ?_
  refine r_cI c2 cd_387_1457 rfl rfl rfl (rc0 m1 rfl) rfl rfl rfl ?_
  refine r_ist cd_387_1460 rfl rfl (L' := [aC 0, aR 0, aR 226, aR 236, aI ((i : Nat) : Int), aI cd, aI b, v7, v8]) rfl ?_
  refine r_aldR cd_387_1462 rfl rfl ?_
  refine r_cI j2.thr cd_387_1463 rfl rfl rfl (rc0 m2 rfl) rfl rfl rfl ?_
  refine r_ild cd_387_1466 rfl rfl ?_
  refine r_ic61e cd_387_1468 rfl (rfl) ?_
  refine r_ild cd_387_1473 rfl rfl ?_
  refine r_if52 cd_387_1475 rfl ⟨by omega, by omega⟩ (fun n2 => ?_) (fun n2 => ?_)
  · refine r_aldR cd_387_1478 rfl rfl ?_
    refine r_con (v := 0) cd_387_1479 rfl (by decide) ?_
    refine r_lld (i := 0) cd_387_1480 rfl o2 rfl (by omega) rfl ?_
    refine r_ild cd_387_1481 rfl rfl ?_
    refine r_i2l cd_387_1483 rfl ?_
    refine r_lcmp (v := 0) cd_387_1484 rfl (lg_eq (hcb n2)) ?_
    refine r_if51 cd_387_1485 rfl ⟨by omega, by omega⟩ (fun n3 => ?_) (fun n3 => ?_)
    · refine r_goto cd_387_1490 ?_
      exact k
    · exact absurd n3 (by decide)
  · refine r_goto cd_387_1490 ?_
    exact k
theorem la_22 (J : JJ h t g w ps kp T bu ek eo rl rp) (hi : i + 6 ≤ h.1.1) (hn : h.1.1 ≤ 3072) (hf : ∀ j, inR (h.1.2 j)) (hk : kc + 6 ≤ 601024) (hs : ks + 36 ≤ 7293034) : LW 1493 h i kc ks v5 v6 v7 v8 := by
  obtain ⟨h0, -⟩ := id J.1
  obtain ⟨h1, h2, v, t1, g1, w1, ps1, kp1, T1, bu1, ek1, eo1, rl1, rp1, c1, ⟨s1, m1⟩, c2, j2, e2, e1⟩ := l_22 J 
  obtain ⟨s2, m2⟩ := j2.mo
  have o2 := j2.2.2.2
  refine ⟨h2, _, _, _, _, _, _, _, _, _, _, _, kc, ks, v5, v6, v7, v8, j2, e2, by omega, by omega, fun res k => ?_⟩
  refine r_aldR cd_387_1493 rfl rfl ?_
  refine r_cI c1 cd_387_1494 rfl rfl rfl (rc0 h0 rfl) rfl rfl rfl ?_
  refine r_aldR cd_387_1497 rfl rfl ?_
  refine r_cI c2 cd_387_1498 rfl rfl rfl (rc0 m1 rfl) rfl rfl rfl ?_
  refine r_ic61e cd_387_1501 rfl (rfl) ?_
  exact k
theorem la_23 (J : JJ h t g w ps kp T bu ek eo rl rp) (hi : i + 6 ≤ h.1.1) (hn : h.1.1 ≤ 3072) (hf : ∀ j, inR (h.1.2 j)) (hk : kc + 6 ≤ 601024) (hs : ks + 36 ≤ 7293034) : LW 1506 h i kc ks v5 v6 v7 v8 := by
  obtain ⟨h0, -⟩ := id J.1
  obtain ⟨h1, h2, v, t1, g1, w1, ps1, kp1, T1, bu1, ek1, eo1, rl1, rp1, c1, ⟨s1, m1⟩, c2, j2, e2, e1⟩ := l_23 J 
  obtain ⟨s2, m2⟩ := j2.mo
  have o2 := j2.2.2.2
  refine ⟨h2, _, _, _, _, _, _, _, _, _, _, _, kc, ks, v5, v6, v7, v8, j2, e2, by omega, by omega, fun res k => ?_⟩
  refine r_aldR cd_387_1506 rfl rfl ?_
  refine r_cI c1 cd_387_1507 rfl rfl rfl (rc0 h0 rfl) rfl rfl rfl ?_
  refine r_aldR cd_387_1510 rfl rfl ?_
  refine r_cI c2 cd_387_1511 rfl rfl rfl (rc0 m1 rfl) rfl rfl rfl ?_
  refine r_ic61e cd_387_1514 rfl (rfl) ?_
  exact k
theorem la_24 (J : JJ h t g w ps kp T bu ek eo rl rp) (hi : i + 6 ≤ h.1.1) (hn : h.1.1 ≤ 3072) (hf : ∀ j, inR (h.1.2 j)) (hk : kc + 6 ≤ 601024) (hs : ks + 36 ≤ 7293034) : LW 1519 h i kc ks v5 v6 v7 v8 := by
  obtain ⟨h0, -⟩ := id J.1
  obtain ⟨h1, h2, v, t1, g1, w1, ps1, kp1, T1, bu1, ek1, eo1, rl1, rp1, c1, ⟨s1, m1⟩, c2, j2, e2, e1⟩ := l_24 J 
  obtain ⟨s2, m2⟩ := j2.mo
  have o2 := j2.2.2.2
  refine ⟨h2, _, _, _, _, _, _, _, _, _, _, _, kc, ks, v5, v6, v7, v8, j2, e2, by omega, by omega, fun res k => ?_⟩
  refine r_aldR cd_387_1519 rfl rfl ?_
  refine r_cI c1 cd_387_1520 rfl rfl rfl (rc0 h0 rfl) rfl rfl rfl ?_
  refine r_aldR cd_387_1523 rfl rfl ?_
  refine r_cI c2 cd_387_1524 rfl rfl rfl (rc0 m1 rfl) rfl rfl rfl ?_
  refine r_ic61e cd_387_1527 rfl (rfl) ?_
  exact k
theorem la_25 (J : JJ h t g w ps kp T bu ek eo rl rp) (hi : i + 6 ≤ h.1.1) (hn : h.1.1 ≤ 3072) (hf : ∀ j, inR (h.1.2 j)) (hk : kc + 6 ≤ 601024) (hs : ks + 36 ≤ 7293034) : LW 1532 h i kc ks v5 v6 v7 v8 := by
  obtain ⟨h0, -⟩ := id J.1
  obtain ⟨h1, h2, v, t1, g1, w1, ps1, kp1, T1, bu1, ek1, eo1, rl1, rp1, c1, ⟨s1, m1⟩, c2, j2, e2, e1⟩ := l_25 J 
  obtain ⟨s2, m2⟩ := j2.mo
  have o2 := j2.2.2.2
  refine ⟨h2, _, _, _, _, _, _, _, _, _, _, _, kc, ks, v5, v6, v7, v8, j2, e2, by omega, by omega, fun res k => ?_⟩
  refine r_aldR cd_387_1532 rfl rfl ?_
  refine r_cI c1 cd_387_1533 rfl rfl rfl (rc0 h0 rfl) rfl rfl rfl ?_
  refine r_aldR cd_387_1536 rfl rfl ?_
  refine r_cI c2 cd_387_1537 rfl rfl rfl (rc0 m1 rfl) rfl rfl rfl ?_
  refine r_ic61e cd_387_1540 rfl (rfl) ?_
  exact k
theorem la_26 (J : JJ h t g w ps kp T bu ek eo rl rp) (hi : i + 6 ≤ h.1.1) (hn : h.1.1 ≤ 3072) (hf : ∀ j, inR (h.1.2 j)) (hk : kc + 6 ≤ 601024) (hs : ks + 36 ≤ 7293034) : LW 1545 h i kc ks v5 v6 v7 v8 := by
  obtain ⟨h0, -⟩ := id J.1
  obtain ⟨h1, h2, v, t1, g1, w1, ps1, kp1, T1, bu1, ek1, eo1, rl1, rp1, c1, ⟨s1, m1⟩, c2, j2, e2, e1⟩ := l_26 J 
  obtain ⟨s2, m2⟩ := j2.mo
  have o2 := j2.2.2.2
  refine ⟨h2, _, _, _, _, _, _, _, _, _, _, _, kc, ks, v5, v6, v7, v8, j2, e2, by omega, by omega, fun res k => ?_⟩
  refine r_aldR cd_387_1545 rfl rfl ?_
  refine r_cI c1 cd_387_1546 rfl rfl rfl (rc0 h0 rfl) rfl rfl rfl ?_
  refine r_aldR cd_387_1549 rfl rfl ?_
  refine r_cI c2 cd_387_1550 rfl rfl rfl (rc0 m1 rfl) rfl rfl rfl ?_
  refine r_ic61e cd_387_1553 rfl (rfl) ?_
  exact k
theorem la_27 (J : JJ h t g w ps kp T bu ek eo rl rp) (hi : i + 6 ≤ h.1.1) (hn : h.1.1 ≤ 3072) (hf : ∀ j, inR (h.1.2 j)) (hk : kc + 6 ≤ 601024) (hs : ks + 36 ≤ 7293034) : LW 1558 h i kc ks v5 v6 v7 v8 := by
  obtain ⟨h0, -⟩ := id J.1
  obtain ⟨h1, h2, v, t1, g1, w1, ps1, kp1, T1, bu1, ek1, eo1, rl1, rp1, c1, ⟨s1, m1⟩, c2, j2, e2, e1⟩ := l_27 J 
  obtain ⟨s2, m2⟩ := j2.mo
  have o2 := j2.2.2.2
  refine ⟨h2, _, _, _, _, _, _, _, _, _, _, _, kc, ks, v5, v6, v7, v8, j2, e2, by omega, by omega, fun res k => ?_⟩
  refine r_aldR cd_387_1558 rfl rfl ?_
  refine r_cI c1 cd_387_1559 rfl rfl rfl (rc0 h0 rfl) rfl rfl rfl ?_
  refine r_aldR cd_387_1562 rfl rfl ?_
  refine r_cI c2 cd_387_1563 rfl rfl rfl (rc0 m1 rfl) rfl rfl rfl ?_
  refine r_ic61e cd_387_1566 rfl (rfl) ?_
  exact k
theorem la_28 (J : JJ h t g w ps kp T bu ek eo rl rp) (hi : i + 6 ≤ h.1.1) (hn : h.1.1 ≤ 3072) (hf : ∀ j, inR (h.1.2 j)) (hk : kc + 6 ≤ 601024) (hs : ks + 36 ≤ 7293034) : LW 1571 h i kc ks v5 v6 v7 v8 := by
  obtain ⟨h0, -⟩ := id J.1
  obtain ⟨h1, h2, v, t1, g1, w1, ps1, kp1, T1, bu1, ek1, eo1, rl1, rp1, c1, ⟨s1, m1⟩, c2, j2, e2, e1⟩ := l_28 J 
  obtain ⟨s2, m2⟩ := j2.mo
  have o2 := j2.2.2.2
  refine ⟨h2, _, _, _, _, _, _, _, _, _, _, _, kc, ks, v5, v6, v7, v8, j2, e2, by omega, by omega, fun res k => ?_⟩
  refine r_aldR cd_387_1571 rfl rfl ?_
  refine r_cI c1 cd_387_1572 rfl rfl rfl (rc0 h0 rfl) rfl rfl rfl ?_
  refine r_aldR cd_387_1575 rfl rfl ?_
  refine r_cI c2 cd_387_1576 rfl rfl rfl (rc0 m1 rfl) rfl rfl rfl ?_
  refine r_ic61e cd_387_1579 rfl (rfl) ?_
  exact k
theorem la_29 (J : JJ h t g w ps kp T bu ek eo rl rp) (hi : i + 6 ≤ h.1.1) (hn : h.1.1 ≤ 3072) (hf : ∀ j, inR (h.1.2 j)) (hk : kc + 6 ≤ 601024) (hs : ks + 36 ≤ 7293034) : LW 1584 h i kc ks v5 v6 v7 v8 := by
  obtain ⟨h0, -⟩ := id J.1
  obtain ⟨h1, h2, cd, b, g1, w1, ps1, kp1, T1, bu1, ek1, eo1, rl1, rp1, c1, ⟨s1, m1⟩, c2, j2, hcb, e2, hc0, hc3, e1⟩ := l_29 J (h.1.2 (i + 1)) (hf _)
  rw [← e1] at c2
  obtain ⟨s2, m2⟩ := j2.mo
  have o2 := j2.2.2.2
  refine ⟨h2, _, _, _, _, _, _, _, _, _, _, _, kc + 1, ks + 6, aI cd, aI b, v7, v8, j2, e2, by omega, by omega, fun res k => ?_⟩
  refine r_aldR cd_387_1584 rfl rfl ?_
  refine r_aldC cd_387_1585 rfl rfl ?_
  refine r_ild cd_387_1586 rfl rfl ?_
  refine r_con (v := 1) cd_387_1588 rfl (by decide) ?_
  refine r_add (v := ((i + 1 : Nat) : Int)) cd_387_1589 rfl (by omega) ?_
  refine r_arrS (i := i + 1) cd_387_1590 rfl rfl rfl (by omega) (by omega) ?_
  refine r_aldR cd_387_1591 rfl rfl ?_
  refine r_dI (k1 := 1) (k2 := 6) (kc' := kc + 1) (ks' := ks + 6) c1 cd_387_1592 rfl rfl rfl True.intro rfl rfl rfl rfl (mbk (by omega)) (mbs (by omega)) rfl ?_
  refine r_ist cd_387_1595 rfl rfl (L' := [aC 0, aR 0, aR 226, aR 236, aI ((i : Nat) : Int), aI cd, v6, v7, v8]) rfl ?_
  refine r_aldR cd_387_1597 rfl rfl ?_
  refine r_aldC cd_387_1598 rfl rfl ?_
  refine r_ild cd_387_1599 rfl rfl ?_
  refine r_con (v := 1) cd_387_1601 rfl (by decide) ?_
  refine r_add (v := ((i + 1 : Nat) : Int)) cd_387_1602 rfl (by omega) ?_
  refine r_arrS (i := i + 1) cd_387_1603 rfl rfl rfl (by rw [e1]; omega) (by rw [e1]; omega) ?_
  refine r_cI c2 cd_387_1604 rfl rfl rfl (rc0 m1 rfl) rfl rfl rfl ?_
  refine r_ist cd_387_1607 rfl rfl (L' := [aC 0, aR 0, aR 226, aR 236, aI ((i : Nat) : Int), aI cd, aI b, v7, v8]) rfl ?_
  refine r_aldR cd_387_1609 rfl rfl ?_
  refine r_cI j2.thr cd_387_1610 rfl rfl rfl (rc0 m2 rfl) rfl rfl rfl ?_
  refine r_ild cd_387_1613 rfl rfl ?_
  refine r_ic61e cd_387_1615 rfl (rfl) ?_
  refine r_ild cd_387_1620 rfl rfl ?_
  refine r_if52 cd_387_1622 rfl ⟨by omega, by omega⟩ (fun n2 => ?_) (fun n2 => ?_)
  · refine r_aldR cd_387_1625 rfl rfl ?_
    refine r_con (v := 0) cd_387_1626 rfl (by decide) ?_
    refine r_lld (i := 0) cd_387_1627 rfl o2 rfl (by omega) rfl ?_
    refine r_ild cd_387_1628 rfl rfl ?_
    refine r_i2l cd_387_1630 rfl ?_
    refine r_lcmp (v := 0) cd_387_1631 rfl (lg_eq (hcb n2)) ?_
    refine r_if51 cd_387_1632 rfl ⟨by omega, by omega⟩ (fun n3 => ?_) (fun n3 => ?_)
    · refine r_goto cd_387_1637 ?_
      exact k
    · exact absurd n3 (by decide)
  · refine r_goto cd_387_1637 ?_
    exact k
theorem la_30 (J : JJ h t g w ps kp T bu ek eo rl rp) (hi : i + 6 ≤ h.1.1) (hn : h.1.1 ≤ 3072) (hf : ∀ j, inR (h.1.2 j)) (hk : kc + 6 ≤ 601024) (hs : ks + 36 ≤ 7293034) : LW 1640 h i kc ks v5 v6 v7 v8 := by
  obtain ⟨h0, -⟩ := id J.1
  obtain ⟨h1, h2, cd, b, g1, w1, ps1, kp1, T1, bu1, ek1, eo1, rl1, rp1, c1, ⟨s1, m1⟩, c2, j2, hcb, e2, hc0, hc3, e1⟩ := l_30 J (h.1.2 (i + 1)) (hf _)
  rw [← e1] at c2
  obtain ⟨s2, m2⟩ := j2.mo
  have o2 := j2.2.2.2
  refine ⟨h2, _, _, _, _, _, _, _, _, _, _, _, kc + 1, ks + 6, aI cd, aI b, v7, v8, j2, e2, by omega, by omega, fun res k => ?_⟩
  refine r_aldR cd_387_1640 rfl rfl ?_
  refine r_aldC cd_387_1641 rfl rfl ?_
  refine r_ild cd_387_1642 rfl rfl ?_
  refine r_con (v := 1) cd_387_1644 rfl (by decide) ?_
  refine r_add (v := ((i + 1 : Nat) : Int)) cd_387_1645 rfl (by omega) ?_
  refine r_arrS (i := i + 1) cd_387_1646 rfl rfl rfl (by omega) (by omega) ?_
  refine r_aldR cd_387_1647 rfl rfl ?_
  refine r_dI (k1 := 1) (k2 := 6) (kc' := kc + 1) (ks' := ks + 6) c1 cd_387_1648 rfl rfl rfl True.intro rfl rfl rfl rfl (mbk (by omega)) (mbs (by omega)) rfl ?_
  refine r_ist cd_387_1651 rfl rfl (L' := [aC 0, aR 0, aR 226, aR 236, aI ((i : Nat) : Int), aI cd, v6, v7, v8]) rfl ?_
  refine r_aldR cd_387_1653 rfl rfl ?_
  refine r_aldC cd_387_1654 rfl rfl ?_
  refine r_ild cd_387_1655 rfl rfl ?_
  refine r_con (v := 1) cd_387_1657 rfl (by decide) ?_
  refine r_add (v := ((i + 1 : Nat) : Int)) cd_387_1658 rfl (by omega) ?_
  refine r_arrS (i := i + 1) cd_387_1659 rfl rfl rfl (by rw [e1]; omega) (by rw [e1]; omega) ?_
  refine r_cI c2 cd_387_1660 rfl rfl rfl (rc0 m1 rfl) rfl rfl rfl ?_
  refine r_ist cd_387_1663 rfl rfl (L' := [aC 0, aR 0, aR 226, aR 236, aI ((i : Nat) : Int), aI cd, aI b, v7, v8]) rfl ?_
  refine r_aldR cd_387_1665 rfl rfl ?_
  refine r_cI j2.thr cd_387_1666 rfl rfl rfl (rc0 m2 rfl) rfl rfl rfl ?_
  refine r_ild cd_387_1669 rfl rfl ?_
  refine r_ic61e cd_387_1671 rfl (rfl) ?_
  refine r_ild cd_387_1676 rfl rfl ?_
  refine r_if52 cd_387_1678 rfl ⟨by omega, by omega⟩ (fun n2 => ?_) (fun n2 => ?_)
  · refine r_aldR cd_387_1681 rfl rfl ?_
    refine r_con (v := 0) cd_387_1682 rfl (by decide) ?_
    refine r_lld (i := 0) cd_387_1683 rfl o2 rfl (by omega) rfl ?_
    refine r_ild cd_387_1684 rfl rfl ?_
    refine r_i2l cd_387_1686 rfl ?_
    refine r_lcmp (v := 0) cd_387_1687 rfl (lg_eq (hcb n2)) ?_
    refine r_if51 cd_387_1688 rfl ⟨by omega, by omega⟩ (fun n3 => ?_) (fun n3 => ?_)
    · refine r_goto cd_387_1693 ?_
      exact k
    · exact absurd n3 (by decide)
  · refine r_goto cd_387_1693 ?_
    exact k
theorem la_31 (J : JJ h t g w ps kp T bu ek eo rl rp) (hi : i + 6 ≤ h.1.1) (hn : h.1.1 ≤ 3072) (hf : ∀ j, inR (h.1.2 j)) (hk : kc + 6 ≤ 601024) (hs : ks + 36 ≤ 7293034) : LW 1696 h i kc ks v5 v6 v7 v8 := by
  obtain ⟨h0, -⟩ := id J.1
  obtain ⟨h1, h2, cd, b, g1, w1, ps1, kp1, T1, bu1, ek1, eo1, rl1, rp1, c1, ⟨s1, m1⟩, c2, j2, hcb, e2, hc0, hc3, e1⟩ := l_31 J (h.1.2 (i + 1)) (hf _)
  rw [← e1] at c2
  obtain ⟨s2, m2⟩ := j2.mo
  have o2 := j2.2.2.2
  refine ⟨h2, _, _, _, _, _, _, _, _, _, _, _, kc + 1, ks + 6, aI cd, aI b, v7, v8, j2, e2, by omega, by omega, fun res k => ?_⟩
  refine r_aldR cd_387_1696 rfl rfl ?_
  refine r_aldC cd_387_1697 rfl rfl ?_
  refine r_ild cd_387_1698 rfl rfl ?_
  refine r_con (v := 1) cd_387_1700 rfl (by decide) ?_
  refine r_add (v := ((i + 1 : Nat) : Int)) cd_387_1701 rfl (by omega) ?_
  refine r_arrS (i := i + 1) cd_387_1702 rfl rfl rfl (by omega) (by omega) ?_
  refine r_aldR cd_387_1703 rfl rfl ?_
  refine r_dI (k1 := 1) (k2 := 6) (kc' := kc + 1) (ks' := ks + 6) c1 cd_387_1704 rfl rfl rfl True.intro rfl rfl rfl rfl (mbk (by omega)) (mbs (by omega)) rfl ?_
  refine r_ist cd_387_1707 rfl rfl (L' := [aC 0, aR 0, aR 226, aR 236, aI ((i : Nat) : Int), aI cd, v6, v7, v8]) rfl ?_
  refine r_aldR cd_387_1709 rfl rfl ?_
  refine r_aldC cd_387_1710 rfl rfl ?_
  refine r_ild cd_387_1711 rfl rfl ?_
  refine r_con (v := 1) cd_387_1713 rfl (by decide) ?_
  refine r_add (v := ((i + 1 : Nat) : Int)) cd_387_1714 rfl (by omega) ?_
  refine r_arrS (i := i + 1) cd_387_1715 rfl rfl rfl (by rw [e1]; omega) (by rw [e1]; omega) ?_
  refine r_cI c2 cd_387_1716 rfl rfl rfl (rc0 m1 rfl) rfl rfl rfl ?_
  refine r_ist cd_387_1719 rfl rfl (L' := [aC 0, aR 0, aR 226, aR 236, aI ((i : Nat) : Int), aI cd, aI b, v7, v8]) rfl ?_
  refine r_aldR cd_387_1721 rfl rfl ?_
  refine r_cI j2.thr cd_387_1722 rfl rfl rfl (rc0 m2 rfl) rfl rfl rfl ?_
  refine r_ild cd_387_1725 rfl rfl ?_
  refine r_ic61e cd_387_1727 rfl (rfl) ?_
  refine r_ild cd_387_1732 rfl rfl ?_
  refine r_if52 cd_387_1734 rfl ⟨by omega, by omega⟩ (fun n2 => ?_) (fun n2 => ?_)
  · refine r_aldR cd_387_1737 rfl rfl ?_
    refine r_con (v := 0) cd_387_1738 rfl (by decide) ?_
    refine r_lld (i := 0) cd_387_1739 rfl o2 rfl (by omega) rfl ?_
    refine r_ild cd_387_1740 rfl rfl ?_
    refine r_i2l cd_387_1742 rfl ?_
    refine r_lcmp (v := 0) cd_387_1743 rfl (lg_eq (hcb n2)) ?_
    refine r_if51 cd_387_1744 rfl ⟨by omega, by omega⟩ (fun n3 => ?_) (fun n3 => ?_)
    · refine r_goto cd_387_1749 ?_
      exact k
    · exact absurd n3 (by decide)
  · refine r_goto cd_387_1749 ?_
    exact k
theorem la_32 (J : JJ h t g w ps kp T bu ek eo rl rp) (hi : i + 6 ≤ h.1.1) (hn : h.1.1 ≤ 3072) (hf : ∀ j, inR (h.1.2 j)) (hk : kc + 6 ≤ 601024) (hs : ks + 36 ≤ 7293034) : LW 1752 h i kc ks v5 v6 v7 v8 := by
  obtain ⟨h0, -⟩ := id J.1
  obtain ⟨h1, h2, cd, b, g1, w1, ps1, kp1, T1, bu1, ek1, eo1, rl1, rp1, c1, ⟨s1, m1⟩, c2, j2, hcb, e2, hc0, hc3, e1⟩ := l_32 J (h.1.2 (i + 1)) (hf _)
  rw [← e1] at c2
  obtain ⟨s2, m2⟩ := j2.mo
  have o2 := j2.2.2.2
  refine ⟨h2, _, _, _, _, _, _, _, _, _, _, _, kc + 1, ks + 6, aI cd, aI b, v7, v8, j2, e2, by omega, by omega, fun res k => ?_⟩
  refine r_aldR cd_387_1752 rfl rfl ?_
  refine r_aldC cd_387_1753 rfl rfl ?_
  refine r_ild cd_387_1754 rfl rfl ?_
  refine r_con (v := 1) cd_387_1756 rfl (by decide) ?_
  refine r_add (v := ((i + 1 : Nat) : Int)) cd_387_1757 rfl (by omega) ?_
  refine r_arrS (i := i + 1) cd_387_1758 rfl rfl rfl (by omega) (by omega) ?_
  refine r_aldR cd_387_1759 rfl rfl ?_
  refine r_dI (k1 := 1) (k2 := 6) (kc' := kc + 1) (ks' := ks + 6) c1 cd_387_1760 rfl rfl rfl True.intro rfl rfl rfl rfl (mbk (by omega)) (mbs (by omega)) rfl ?_
  refine r_ist cd_387_1763 rfl rfl (L' := [aC 0, aR 0, aR 226, aR 236, aI ((i : Nat) : Int), aI cd, v6, v7, v8]) rfl ?_
  refine r_aldR cd_387_1765 rfl rfl ?_
  refine r_aldC cd_387_1766 rfl rfl ?_
  refine r_ild cd_387_1767 rfl rfl ?_
  refine r_con (v := 1) cd_387_1769 rfl (by decide) ?_
  refine r_add (v := ((i + 1 : Nat) : Int)) cd_387_1770 rfl (by omega) ?_
  refine r_arrS (i := i + 1) cd_387_1771 rfl rfl rfl (by rw [e1]; omega) (by rw [e1]; omega) ?_
  refine r_cI c2 cd_387_1772 rfl rfl rfl (rc0 m1 rfl) rfl rfl rfl ?_
  refine r_ist cd_387_1775 rfl rfl (L' := [aC 0, aR 0, aR 226, aR 236, aI ((i : Nat) : Int), aI cd, aI b, v7, v8]) rfl ?_
  refine r_aldR cd_387_1777 rfl rfl ?_
  refine r_cI j2.thr cd_387_1778 rfl rfl rfl (rc0 m2 rfl) rfl rfl rfl ?_
  refine r_ild cd_387_1781 rfl rfl ?_
  refine r_ic61e cd_387_1783 rfl (rfl) ?_
  refine r_ild cd_387_1788 rfl rfl ?_
  refine r_if52 cd_387_1790 rfl ⟨by omega, by omega⟩ (fun n2 => ?_) (fun n2 => ?_)
  · refine r_aldR cd_387_1793 rfl rfl ?_
    refine r_con (v := 0) cd_387_1794 rfl (by decide) ?_
    refine r_lld (i := 0) cd_387_1795 rfl o2 rfl (by omega) rfl ?_
    refine r_ild cd_387_1796 rfl rfl ?_
    refine r_i2l cd_387_1798 rfl ?_
    refine r_lcmp (v := 0) cd_387_1799 rfl (lg_eq (hcb n2)) ?_
    refine r_if51 cd_387_1800 rfl ⟨by omega, by omega⟩ (fun n3 => ?_) (fun n3 => ?_)
    · refine r_goto cd_387_1805 ?_
      exact k
    · exact absurd n3 (by decide)
  · refine r_goto cd_387_1805 ?_
    exact k
theorem la_33 (J : JJ h t g w ps kp T bu ek eo rl rp) (hi : i + 6 ≤ h.1.1) (hn : h.1.1 ≤ 3072) (hf : ∀ j, inR (h.1.2 j)) (hk : kc + 6 ≤ 601024) (hs : ks + 36 ≤ 7293034) : LW 1808 h i kc ks v5 v6 v7 v8 := by
  obtain ⟨h0, -⟩ := id J.1
  obtain ⟨h1, h2, cd, b, g1, w1, ps1, kp1, T1, bu1, ek1, eo1, rl1, rp1, c1, ⟨s1, m1⟩, c2, j2, hcb, e2, hc0, hc3, e1⟩ := l_33 J (h.1.2 (i + 1)) (hf _)
  rw [← e1] at c2
  obtain ⟨s2, m2⟩ := j2.mo
  have o2 := j2.2.2.2
  refine ⟨h2, _, _, _, _, _, _, _, _, _, _, _, kc + 1, ks + 6, aI cd, aI b, v7, v8, j2, e2, by omega, by omega, fun res k => ?_⟩
  refine r_aldR cd_387_1808 rfl rfl ?_
  refine r_aldC cd_387_1809 rfl rfl ?_
  refine r_ild cd_387_1810 rfl rfl ?_
  refine r_con (v := 1) cd_387_1812 rfl (by decide) ?_
  refine r_add (v := ((i + 1 : Nat) : Int)) cd_387_1813 rfl (by omega) ?_
  refine r_arrS (i := i + 1) cd_387_1814 rfl rfl rfl (by omega) (by omega) ?_
  refine r_aldR cd_387_1815 rfl rfl ?_
  refine r_dI (k1 := 1) (k2 := 6) (kc' := kc + 1) (ks' := ks + 6) c1 cd_387_1816 rfl rfl rfl True.intro rfl rfl rfl rfl (mbk (by omega)) (mbs (by omega)) rfl ?_
  refine r_ist cd_387_1819 rfl rfl (L' := [aC 0, aR 0, aR 226, aR 236, aI ((i : Nat) : Int), aI cd, v6, v7, v8]) rfl ?_
  refine r_aldR cd_387_1821 rfl rfl ?_
  refine r_aldC cd_387_1822 rfl rfl ?_
  refine r_ild cd_387_1823 rfl rfl ?_
  refine r_con (v := 1) cd_387_1825 rfl (by decide) ?_
  refine r_add (v := ((i + 1 : Nat) : Int)) cd_387_1826 rfl (by omega) ?_
  refine r_arrS (i := i + 1) cd_387_1827 rfl rfl rfl (by rw [e1]; omega) (by rw [e1]; omega) ?_
  refine r_cI c2 cd_387_1828 rfl rfl rfl (rc0 m1 rfl) rfl rfl rfl ?_
  refine r_ist cd_387_1831 rfl rfl (L' := [aC 0, aR 0, aR 226, aR 236, aI ((i : Nat) : Int), aI cd, aI b, v7, v8]) rfl ?_
  refine r_aldR cd_387_1833 rfl rfl ?_
  refine r_cI j2.thr cd_387_1834 rfl rfl rfl (rc0 m2 rfl) rfl rfl rfl ?_
  refine r_ild cd_387_1837 rfl rfl ?_
  refine r_ic61e cd_387_1839 rfl (rfl) ?_
  refine r_ild cd_387_1844 rfl rfl ?_
  refine r_if52 cd_387_1846 rfl ⟨by omega, by omega⟩ (fun n2 => ?_) (fun n2 => ?_)
  · refine r_aldR cd_387_1849 rfl rfl ?_
    refine r_con (v := 0) cd_387_1850 rfl (by decide) ?_
    refine r_lld (i := 0) cd_387_1851 rfl o2 rfl (by omega) rfl ?_
    refine r_ild cd_387_1852 rfl rfl ?_
    refine r_i2l cd_387_1854 rfl ?_
    refine r_lcmp (v := 0) cd_387_1855 rfl (lg_eq (hcb n2)) ?_
    refine r_if51 cd_387_1856 rfl ⟨by omega, by omega⟩ (fun n3 => ?_) (fun n3 => ?_)
    · refine r_goto cd_387_1861 ?_
      exact k
    · exact absurd n3 (by decide)
  · refine r_goto cd_387_1861 ?_
    exact k
theorem la_34 (J : JJ h t g w ps kp T bu ek eo rl rp) (hi : i + 6 ≤ h.1.1) (hn : h.1.1 ≤ 3072) (hf : ∀ j, inR (h.1.2 j)) (hk : kc + 6 ≤ 601024) (hs : ks + 36 ≤ 7293034) : LW 1864 h i kc ks v5 v6 v7 v8 := by
  obtain ⟨h0, -⟩ := id J.1
  obtain ⟨h1, h2, cd, b, g1, w1, ps1, kp1, T1, bu1, ek1, eo1, rl1, rp1, c1, ⟨s1, m1⟩, c2, j2, hcb, e2, hc0, hc3, e1⟩ := l_34 J (h.1.2 (i + 1)) (hf _)
  rw [← e1] at c2
  obtain ⟨s2, m2⟩ := j2.mo
  have o2 := j2.2.2.2
  refine ⟨h2, _, _, _, _, _, _, _, _, _, _, _, kc + 1, ks + 6, aI cd, aI b, v7, v8, j2, e2, by omega, by omega, fun res k => ?_⟩
  refine r_aldR cd_387_1864 rfl rfl ?_
  refine r_aldC cd_387_1865 rfl rfl ?_
  refine r_ild cd_387_1866 rfl rfl ?_
  refine r_con (v := 1) cd_387_1868 rfl (by decide) ?_
  refine r_add (v := ((i + 1 : Nat) : Int)) cd_387_1869 rfl (by omega) ?_
  refine r_arrS (i := i + 1) cd_387_1870 rfl rfl rfl (by omega) (by omega) ?_
  refine r_aldR cd_387_1871 rfl rfl ?_
  refine r_dI (k1 := 1) (k2 := 6) (kc' := kc + 1) (ks' := ks + 6) c1 cd_387_1872 rfl rfl rfl True.intro rfl rfl rfl rfl (mbk (by omega)) (mbs (by omega)) rfl ?_
  refine r_ist cd_387_1875 rfl rfl (L' := [aC 0, aR 0, aR 226, aR 236, aI ((i : Nat) : Int), aI cd, v6, v7, v8]) rfl ?_
  refine r_aldR cd_387_1877 rfl rfl ?_
  refine r_aldC cd_387_1878 rfl rfl ?_
  refine r_ild cd_387_1879 rfl rfl ?_
  refine r_con (v := 1) cd_387_1881 rfl (by decide) ?_
  refine r_add (v := ((i + 1 : Nat) : Int)) cd_387_1882 rfl (by omega) ?_
  refine r_arrS (i := i + 1) cd_387_1883 rfl rfl rfl (by rw [e1]; omega) (by rw [e1]; omega) ?_
  refine r_cI c2 cd_387_1884 rfl rfl rfl (rc0 m1 rfl) rfl rfl rfl ?_
  refine r_ist cd_387_1887 rfl rfl (L' := [aC 0, aR 0, aR 226, aR 236, aI ((i : Nat) : Int), aI cd, aI b, v7, v8]) rfl ?_
  refine r_aldR cd_387_1889 rfl rfl ?_
  refine r_cI j2.thr cd_387_1890 rfl rfl rfl (rc0 m2 rfl) rfl rfl rfl ?_
  refine r_ild cd_387_1893 rfl rfl ?_
  refine r_ic61e cd_387_1895 rfl (rfl) ?_
  refine r_ild cd_387_1900 rfl rfl ?_
  refine r_if52 cd_387_1902 rfl ⟨by omega, by omega⟩ (fun n2 => ?_) (fun n2 => ?_)
  · refine r_aldR cd_387_1905 rfl rfl ?_
    refine r_con (v := 0) cd_387_1906 rfl (by decide) ?_
    refine r_lld (i := 0) cd_387_1907 rfl o2 rfl (by omega) rfl ?_
    refine r_ild cd_387_1908 rfl rfl ?_
    refine r_i2l cd_387_1910 rfl ?_
    refine r_lcmp (v := 0) cd_387_1911 rfl (lg_eq (hcb n2)) ?_
    refine r_if51 cd_387_1912 rfl ⟨by omega, by omega⟩ (fun n3 => ?_) (fun n3 => ?_)
    · refine r_goto cd_387_1917 ?_
      exact k
    · exact absurd n3 (by decide)
  · refine r_goto cd_387_1917 ?_
    exact k
theorem la_35 (J : JJ h t g w ps kp T bu ek eo rl rp) (hi : i + 6 ≤ h.1.1) (hn : h.1.1 ≤ 3072) (hf : ∀ j, inR (h.1.2 j)) (hk : kc + 6 ≤ 601024) (hs : ks + 36 ≤ 7293034) : LW 1920 h i kc ks v5 v6 v7 v8 := by
  obtain ⟨h0, -⟩ := id J.1
  obtain ⟨h1, h2, cd, b, g1, w1, ps1, kp1, T1, bu1, ek1, eo1, rl1, rp1, c1, ⟨s1, m1⟩, c2, j2, hcb, e2, hc0, hc3, e1⟩ := l_35 J (h.1.2 (i + 1)) (hf _)
  rw [← e1] at c2
  obtain ⟨s2, m2⟩ := j2.mo
  have o2 := j2.2.2.2
  refine ⟨h2, _, _, _, _, _, _, _, _, _, _, _, kc + 1, ks + 6, aI cd, aI b, v7, v8, j2, e2, by omega, by omega, fun res k => ?_⟩
  refine r_aldR cd_387_1920 rfl rfl ?_
  refine r_aldC cd_387_1921 rfl rfl ?_
  refine r_ild cd_387_1922 rfl rfl ?_
  refine r_con (v := 1) cd_387_1924 rfl (by decide) ?_
  refine r_add (v := ((i + 1 : Nat) : Int)) cd_387_1925 rfl (by omega) ?_
  refine r_arrS (i := i + 1) cd_387_1926 rfl rfl rfl (by omega) (by omega) ?_
  refine r_aldR cd_387_1927 rfl rfl ?_
  refine r_dI (k1 := 1) (k2 := 6) (kc' := kc + 1) (ks' := ks + 6) c1 cd_387_1928 rfl rfl rfl True.intro rfl rfl rfl rfl (mbk (by omega)) (mbs (by omega)) rfl ?_
  refine r_ist cd_387_1931 rfl rfl (L' := [aC 0, aR 0, aR 226, aR 236, aI ((i : Nat) : Int), aI cd, v6, v7, v8]) rfl ?_
  refine r_aldR cd_387_1933 rfl rfl ?_
  refine r_aldC cd_387_1934 rfl rfl ?_
  refine r_ild cd_387_1935 rfl rfl ?_
  refine r_con (v := 1) cd_387_1937 rfl (by decide) ?_
  refine r_add (v := ((i + 1 : Nat) : Int)) cd_387_1938 rfl (by omega) ?_
  refine r_arrS (i := i + 1) cd_387_1939 rfl rfl rfl (by rw [e1]; omega) (by rw [e1]; omega) ?_
  refine r_cI c2 cd_387_1940 rfl rfl rfl (rc0 m1 rfl) rfl rfl rfl ?_
  refine r_ist cd_387_1943 rfl rfl (L' := [aC 0, aR 0, aR 226, aR 236, aI ((i : Nat) : Int), aI cd, aI b, v7, v8]) rfl ?_
  refine r_aldR cd_387_1945 rfl rfl ?_
  refine r_cI j2.thr cd_387_1946 rfl rfl rfl (rc0 m2 rfl) rfl rfl rfl ?_
  refine r_ild cd_387_1949 rfl rfl ?_
  refine r_ic61e cd_387_1951 rfl (rfl) ?_
  refine r_ild cd_387_1956 rfl rfl ?_
  refine r_if52 cd_387_1958 rfl ⟨by omega, by omega⟩ (fun n2 => ?_) (fun n2 => ?_)
  · refine r_aldR cd_387_1961 rfl rfl ?_
    refine r_con (v := 0) cd_387_1962 rfl (by decide) ?_
    refine r_lld (i := 0) cd_387_1963 rfl o2 rfl (by omega) rfl ?_
    refine r_ild cd_387_1964 rfl rfl ?_
    refine r_i2l cd_387_1966 rfl ?_
    refine r_lcmp (v := 0) cd_387_1967 rfl (lg_eq (hcb n2)) ?_
    refine r_if51 cd_387_1968 rfl ⟨by omega, by omega⟩ (fun n3 => ?_) (fun n3 => ?_)
    · refine r_goto cd_387_1973 ?_
      exact k
    · exact absurd n3 (by decide)
  · refine r_goto cd_387_1973 ?_
    exact k
theorem la_36 (J : JJ h t g w ps kp T bu ek eo rl rp) (hi : i + 6 ≤ h.1.1) (hn : h.1.1 ≤ 3072) (hf : ∀ j, inR (h.1.2 j)) (hk : kc + 6 ≤ 601024) (hs : ks + 36 ≤ 7293034) : LW 1976 h i kc ks v5 v6 v7 v8 := by
  obtain ⟨h0, -⟩ := id J.1
  obtain ⟨h1, h2, cd, b, g1, w1, ps1, kp1, T1, bu1, ek1, eo1, rl1, rp1, c1, ⟨s1, m1⟩, c2, j2, hcb, e2, hc0, hc3, e1⟩ := l_36 J (h.1.2 (i + 1)) (hf _)
  rw [← e1] at c2
  obtain ⟨s2, m2⟩ := j2.mo
  have o2 := j2.2.2.2
  refine ⟨h2, _, _, _, _, _, _, _, _, _, _, _, kc + 1, ks + 6, aI cd, aI b, v7, v8, j2, e2, by omega, by omega, fun res k => ?_⟩
  refine r_aldR cd_387_1976 rfl rfl ?_
  refine r_aldC cd_387_1977 rfl rfl ?_
  refine r_ild cd_387_1978 rfl rfl ?_
  refine r_con (v := 1) cd_387_1980 rfl (by decide) ?_
  refine r_add (v := ((i + 1 : Nat) : Int)) cd_387_1981 rfl (by omega) ?_
  refine r_arrS (i := i + 1) cd_387_1982 rfl rfl rfl (by omega) (by omega) ?_
  refine r_aldR cd_387_1983 rfl rfl ?_
  refine r_dI (k1 := 1) (k2 := 6) (kc' := kc + 1) (ks' := ks + 6) c1 cd_387_1984 rfl rfl rfl True.intro rfl rfl rfl rfl (mbk (by omega)) (mbs (by omega)) rfl ?_
  refine r_ist cd_387_1987 rfl rfl (L' := [aC 0, aR 0, aR 226, aR 236, aI ((i : Nat) : Int), aI cd, v6, v7, v8]) rfl ?_
  refine r_aldR cd_387_1989 rfl rfl ?_
  refine r_aldC cd_387_1990 rfl rfl ?_
  refine r_ild cd_387_1991 rfl rfl ?_
  refine r_con (v := 1) cd_387_1993 rfl (by decide) ?_
  refine r_add (v := ((i + 1 : Nat) : Int)) cd_387_1994 rfl (by omega) ?_
  refine r_arrS (i := i + 1) cd_387_1995 rfl rfl rfl (by rw [e1]; omega) (by rw [e1]; omega) ?_
  refine r_cI c2 cd_387_1996 rfl rfl rfl (rc0 m1 rfl) rfl rfl rfl ?_
  refine r_ist cd_387_1999 rfl rfl (L' := [aC 0, aR 0, aR 226, aR 236, aI ((i : Nat) : Int), aI cd, aI b, v7, v8]) rfl ?_
  refine r_aldR cd_387_2001 rfl rfl ?_
  refine r_cI j2.thr cd_387_2002 rfl rfl rfl (rc0 m2 rfl) rfl rfl rfl ?_
  refine r_ild cd_387_2005 rfl rfl ?_
  refine r_ic61e cd_387_2007 rfl (rfl) ?_
  refine r_ild cd_387_2012 rfl rfl ?_
  refine r_if52 cd_387_2014 rfl ⟨by omega, by omega⟩ (fun n2 => ?_) (fun n2 => ?_)
  · refine r_aldR cd_387_2017 rfl rfl ?_
    refine r_con (v := 0) cd_387_2018 rfl (by decide) ?_
    refine r_lld (i := 0) cd_387_2019 rfl o2 rfl (by omega) rfl ?_
    refine r_ild cd_387_2020 rfl rfl ?_
    refine r_i2l cd_387_2022 rfl ?_
    refine r_lcmp (v := 0) cd_387_2023 rfl (lg_eq (hcb n2)) ?_
    refine r_if51 cd_387_2024 rfl ⟨by omega, by omega⟩ (fun n3 => ?_) (fun n3 => ?_)
    · refine r_goto cd_387_2029 ?_
      exact k
    · exact absurd n3 (by decide)
  · refine r_goto cd_387_2029 ?_
    exact k
theorem la_37 (J : JJ h t g w ps kp T bu ek eo rl rp) (hi : i + 6 ≤ h.1.1) (hn : h.1.1 ≤ 3072) (hf : ∀ j, inR (h.1.2 j)) (hk : kc + 6 ≤ 601024) (hs : ks + 36 ≤ 7293034) : LW 2032 h i kc ks v5 v6 v7 v8 := by
  obtain ⟨h0, -⟩ := id J.1
  obtain ⟨h1, h2, cd, b, g1, w1, ps1, kp1, T1, bu1, ek1, eo1, rl1, rp1, c1, ⟨s1, m1⟩, c2, j2, hcb, e2, hc0, hc3, e1⟩ := l_37 J (h.1.2 (i + 1)) (hf _)
  rw [← e1] at c2
  obtain ⟨s2, m2⟩ := j2.mo
  have o2 := j2.2.2.2
  refine ⟨h2, _, _, _, _, _, _, _, _, _, _, _, kc + 1, ks + 6, aI cd, aI b, v7, v8, j2, e2, by omega, by omega, fun res k => ?_⟩
  refine r_aldR cd_387_2032 rfl rfl ?_
  refine r_aldC cd_387_2033 rfl rfl ?_
  refine r_ild cd_387_2034 rfl rfl ?_
  refine r_con (v := 1) cd_387_2036 rfl (by decide) ?_
  refine r_add (v := ((i + 1 : Nat) : Int)) cd_387_2037 rfl (by omega) ?_
  refine r_arrS (i := i + 1) cd_387_2038 rfl rfl rfl (by omega) (by omega) ?_
  refine r_aldR cd_387_2039 rfl rfl ?_
  refine r_dI (k1 := 1) (k2 := 6) (kc' := kc + 1) (ks' := ks + 6) c1 cd_387_2040 rfl rfl rfl True.intro rfl rfl rfl rfl (mbk (by omega)) (mbs (by omega)) rfl ?_
  refine r_ist cd_387_2043 rfl rfl (L' := [aC 0, aR 0, aR 226, aR 236, aI ((i : Nat) : Int), aI cd, v6, v7, v8]) rfl ?_
  refine r_aldR cd_387_2045 rfl rfl ?_
  refine r_aldC cd_387_2046 rfl rfl ?_
  refine r_ild cd_387_2047 rfl rfl ?_
  refine r_con (v := 1) cd_387_2049 rfl (by decide) ?_
  refine r_add (v := ((i + 1 : Nat) : Int)) cd_387_2050 rfl (by omega) ?_
  refine r_arrS (i := i + 1) cd_387_2051 rfl rfl rfl (by rw [e1]; omega) (by rw [e1]; omega) ?_
  refine r_cI c2 cd_387_2052 rfl rfl rfl (rc0 m1 rfl) rfl rfl rfl ?_
  refine r_ist cd_387_2055 rfl rfl (L' := [aC 0, aR 0, aR 226, aR 236, aI ((i : Nat) : Int), aI cd, aI b, v7, v8]) rfl ?_
  refine r_aldR cd_387_2057 rfl rfl ?_
  refine r_cI j2.thr cd_387_2058 rfl rfl rfl (rc0 m2 rfl) rfl rfl rfl ?_
  refine r_ild cd_387_2061 rfl rfl ?_
  refine r_ic61e cd_387_2063 rfl (rfl) ?_
  refine r_ild cd_387_2068 rfl rfl ?_
  refine r_if52 cd_387_2070 rfl ⟨by omega, by omega⟩ (fun n2 => ?_) (fun n2 => ?_)
  · refine r_aldR cd_387_2073 rfl rfl ?_
    refine r_con (v := 0) cd_387_2074 rfl (by decide) ?_
    refine r_lld (i := 0) cd_387_2075 rfl o2 rfl (by omega) rfl ?_
    refine r_ild cd_387_2076 rfl rfl ?_
    refine r_i2l cd_387_2078 rfl ?_
    refine r_lcmp (v := 0) cd_387_2079 rfl (lg_eq (hcb n2)) ?_
    refine r_if51 cd_387_2080 rfl ⟨by omega, by omega⟩ (fun n3 => ?_) (fun n3 => ?_)
    · refine r_goto cd_387_2085 ?_
      exact k
    · exact absurd n3 (by decide)
  · refine r_goto cd_387_2085 ?_
    exact k
theorem la_38 (J : JJ h t g w ps kp T bu ek eo rl rp) (hi : i + 6 ≤ h.1.1) (hn : h.1.1 ≤ 3072) (hf : ∀ j, inR (h.1.2 j)) (hk : kc + 6 ≤ 601024) (hs : ks + 36 ≤ 7293034) : LW 2088 h i kc ks v5 v6 v7 v8 := by
  obtain ⟨h0, -⟩ := id J.1
  obtain ⟨h1, h2, cd, b, g1, w1, ps1, kp1, T1, bu1, ek1, eo1, rl1, rp1, c1, ⟨s1, m1⟩, c2, j2, hcb, e2, hc0, hc3, e1⟩ := l_38 J (h.1.2 (i + 1)) (hf _)
  rw [← e1] at c2
  obtain ⟨s2, m2⟩ := j2.mo
  have o2 := j2.2.2.2
  refine ⟨h2, _, _, _, _, _, _, _, _, _, _, _, kc + 1, ks + 6, aI cd, aI b, v7, v8, j2, e2, by omega, by omega, fun res k => ?_⟩
  refine r_aldR cd_387_2088 rfl rfl ?_
  refine r_aldC cd_387_2089 rfl rfl ?_
  refine r_ild cd_387_2090 rfl rfl ?_
  refine r_con (v := 1) cd_387_2092 rfl (by decide) ?_
  refine r_add (v := ((i + 1 : Nat) : Int)) cd_387_2093 rfl (by omega) ?_
  refine r_arrS (i := i + 1) cd_387_2094 rfl rfl rfl (by omega) (by omega) ?_
  refine r_aldR cd_387_2095 rfl rfl ?_
  refine r_dI (k1 := 1) (k2 := 6) (kc' := kc + 1) (ks' := ks + 6) c1 cd_387_2096 rfl rfl rfl True.intro rfl rfl rfl rfl (mbk (by omega)) (mbs (by omega)) rfl ?_
  refine r_ist cd_387_2099 rfl rfl (L' := [aC 0, aR 0, aR 226, aR 236, aI ((i : Nat) : Int), aI cd, v6, v7, v8]) rfl ?_
  refine r_aldR cd_387_2101 rfl rfl ?_
  refine r_aldC cd_387_2102 rfl rfl ?_
  refine r_ild cd_387_2103 rfl rfl ?_
  refine r_con (v := 1) cd_387_2105 rfl (by decide) ?_
  refine r_add (v := ((i + 1 : Nat) : Int)) cd_387_2106 rfl (by omega) ?_
  refine r_arrS (i := i + 1) cd_387_2107 rfl rfl rfl (by rw [e1]; omega) (by rw [e1]; omega) ?_
  refine r_cI c2 cd_387_2108 rfl rfl rfl (rc0 m1 rfl) rfl rfl rfl ?_
  refine r_ist cd_387_2111 rfl rfl (L' := [aC 0, aR 0, aR 226, aR 236, aI ((i : Nat) : Int), aI cd, aI b, v7, v8]) rfl ?_
  refine r_aldR cd_387_2113 rfl rfl ?_
  refine r_cI j2.thr cd_387_2114 rfl rfl rfl (rc0 m2 rfl) rfl rfl rfl ?_
  refine r_ild cd_387_2117 rfl rfl ?_
  refine r_ic61e cd_387_2119 rfl (rfl) ?_
  refine r_ild cd_387_2124 rfl rfl ?_
  refine r_if52 cd_387_2126 rfl ⟨by omega, by omega⟩ (fun n2 => ?_) (fun n2 => ?_)
  · refine r_aldR cd_387_2129 rfl rfl ?_
    refine r_con (v := 0) cd_387_2130 rfl (by decide) ?_
    refine r_lld (i := 0) cd_387_2131 rfl o2 rfl (by omega) rfl ?_
    refine r_ild cd_387_2132 rfl rfl ?_
    refine r_i2l cd_387_2134 rfl ?_
    refine r_lcmp (v := 0) cd_387_2135 rfl (lg_eq (hcb n2)) ?_
    refine r_if51 cd_387_2136 rfl ⟨by omega, by omega⟩ (fun n3 => ?_) (fun n3 => ?_)
    · refine r_goto cd_387_2141 ?_
      exact k
    · exact absurd n3 (by decide)
  · refine r_goto cd_387_2141 ?_
    exact k
theorem la_39 (J : JJ h t g w ps kp T bu ek eo rl rp) (hi : i + 6 ≤ h.1.1) (hn : h.1.1 ≤ 3072) (hf : ∀ j, inR (h.1.2 j)) (hk : kc + 6 ≤ 601024) (hs : ks + 36 ≤ 7293034) : LW 2144 h i kc ks v5 v6 v7 v8 := by
  obtain ⟨h0, -⟩ := id J.1
  obtain ⟨h1, h2, cd, b, g1, w1, ps1, kp1, T1, bu1, ek1, eo1, rl1, rp1, c1, ⟨s1, m1⟩, c2, j2, hcb, e2, hc0, hc3, e1⟩ := l_39 J (h.1.2 (i + 1)) (hf _)
  rw [← e1] at c2
  obtain ⟨s2, m2⟩ := j2.mo
  have o2 := j2.2.2.2
  refine ⟨h2, _, _, _, _, _, _, _, _, _, _, _, kc + 1, ks + 6, aI cd, aI b, v7, v8, j2, e2, by omega, by omega, fun res k => ?_⟩
  refine r_aldR cd_387_2144 rfl rfl ?_
  refine r_aldC cd_387_2145 rfl rfl ?_
  refine r_ild cd_387_2146 rfl rfl ?_
  refine r_con (v := 1) cd_387_2148 rfl (by decide) ?_
  refine r_add (v := ((i + 1 : Nat) : Int)) cd_387_2149 rfl (by omega) ?_
  refine r_arrS (i := i + 1) cd_387_2150 rfl rfl rfl (by omega) (by omega) ?_
  refine r_aldR cd_387_2151 rfl rfl ?_
  refine r_dI (k1 := 1) (k2 := 6) (kc' := kc + 1) (ks' := ks + 6) c1 cd_387_2152 rfl rfl rfl True.intro rfl rfl rfl rfl (mbk (by omega)) (mbs (by omega)) rfl ?_
  refine r_ist cd_387_2155 rfl rfl (L' := [aC 0, aR 0, aR 226, aR 236, aI ((i : Nat) : Int), aI cd, v6, v7, v8]) rfl ?_
  refine r_aldR cd_387_2157 rfl rfl ?_
  refine r_aldC cd_387_2158 rfl rfl ?_
  refine r_ild cd_387_2159 rfl rfl ?_
  refine r_con (v := 1) cd_387_2161 rfl (by decide) ?_
  refine r_add (v := ((i + 1 : Nat) : Int)) cd_387_2162 rfl (by omega) ?_
  refine r_arrS (i := i + 1) cd_387_2163 rfl rfl rfl (by rw [e1]; omega) (by rw [e1]; omega) ?_
  refine r_cI c2 cd_387_2164 rfl rfl rfl (rc0 m1 rfl) rfl rfl rfl ?_
  refine r_ist cd_387_2167 rfl rfl (L' := [aC 0, aR 0, aR 226, aR 236, aI ((i : Nat) : Int), aI cd, aI b, v7, v8]) rfl ?_
  refine r_aldR cd_387_2169 rfl rfl ?_
  refine r_cI j2.thr cd_387_2170 rfl rfl rfl (rc0 m2 rfl) rfl rfl rfl ?_
  refine r_ild cd_387_2173 rfl rfl ?_
  refine r_ic61e cd_387_2175 rfl (rfl) ?_
  refine r_ild cd_387_2180 rfl rfl ?_
  refine r_if52 cd_387_2182 rfl ⟨by omega, by omega⟩ (fun n2 => ?_) (fun n2 => ?_)
  · refine r_aldR cd_387_2185 rfl rfl ?_
    refine r_con (v := 0) cd_387_2186 rfl (by decide) ?_
    refine r_lld (i := 0) cd_387_2187 rfl o2 rfl (by omega) rfl ?_
    refine r_ild cd_387_2188 rfl rfl ?_
    refine r_i2l cd_387_2190 rfl ?_
    refine r_lcmp (v := 0) cd_387_2191 rfl (lg_eq (hcb n2)) ?_
    refine r_if51 cd_387_2192 rfl ⟨by omega, by omega⟩ (fun n3 => ?_) (fun n3 => ?_)
    · refine r_goto cd_387_2197 ?_
      exact k
    · exact absurd n3 (by decide)
  · refine r_goto cd_387_2197 ?_
    exact k
theorem la_40 (J : JJ h t g w ps kp T bu ek eo rl rp) (hi : i + 6 ≤ h.1.1) (hn : h.1.1 ≤ 3072) (hf : ∀ j, inR (h.1.2 j)) (hk : kc + 6 ≤ 601024) (hs : ks + 36 ≤ 7293034) : LW 2200 h i kc ks v5 v6 v7 v8 := by
  obtain ⟨h0, -⟩ := id J.1
  obtain ⟨h1, h2, v, t1, g1, w1, ps1, kp1, T1, bu1, ek1, eo1, rl1, rp1, c1, ⟨s1, m1⟩, c2, j2, e2, e1⟩ := l_40 J 
  obtain ⟨s2, m2⟩ := j2.mo
  have o2 := j2.2.2.2
  refine ⟨h2, _, _, _, _, _, _, _, _, _, _, _, kc, ks, v5, v6, v7, v8, j2, e2, by omega, by omega, fun res k => ?_⟩
  refine r_aldR cd_387_2200 rfl rfl ?_
  refine r_cI c1 cd_387_2201 rfl rfl rfl (rc0 h0 rfl) rfl rfl rfl ?_
  refine r_aldR cd_387_2204 rfl rfl ?_
  refine r_cI c2 cd_387_2205 rfl rfl rfl (rc0 m1 rfl) rfl rfl rfl ?_
  refine r_ic61e cd_387_2208 rfl (rfl) ?_
  exact k
theorem la_41 (J : JJ h t g w ps kp T bu ek eo rl rp) (hi : i + 6 ≤ h.1.1) (hn : h.1.1 ≤ 3072) (hf : ∀ j, inR (h.1.2 j)) (hk : kc + 6 ≤ 601024) (hs : ks + 36 ≤ 7293034) : LW 2213 h i kc ks v5 v6 v7 v8 := by
  obtain ⟨h0, -⟩ := id J.1
  obtain ⟨h1, h2, cd, b, g1, w1, ps1, kp1, T1, bu1, ek1, eo1, rl1, rp1, c1, ⟨s1, m1⟩, c2, j2, hcb, e2, hc0, hc3, e1⟩ := l_41 J (h.1.2 (i + 1)) (hf _)
  rw [← e1] at c2
  obtain ⟨s2, m2⟩ := j2.mo
  have o2 := j2.2.2.2
  refine ⟨h2, _, _, _, _, _, _, _, _, _, _, _, kc + 1, ks + 6, aI cd, aI b, v7, v8, j2, e2, by omega, by omega, fun res k => ?_⟩
  refine r_aldR cd_387_2213 rfl rfl ?_
  refine r_aldC cd_387_2214 rfl rfl ?_
  refine r_ild cd_387_2215 rfl rfl ?_
  refine r_con (v := 1) cd_387_2217 rfl (by decide) ?_
  refine r_add (v := ((i + 1 : Nat) : Int)) cd_387_2218 rfl (by omega) ?_
  refine r_arrS (i := i + 1) cd_387_2219 rfl rfl rfl (by omega) (by omega) ?_
  refine r_aldR cd_387_2220 rfl rfl ?_
  refine r_dI (k1 := 1) (k2 := 6) (kc' := kc + 1) (ks' := ks + 6) c1 cd_387_2221 rfl rfl rfl True.intro rfl rfl rfl rfl (mbk (by omega)) (mbs (by omega)) rfl ?_
  refine r_ist cd_387_2224 rfl rfl (L' := [aC 0, aR 0, aR 226, aR 236, aI ((i : Nat) : Int), aI cd, v6, v7, v8]) rfl ?_
  refine r_aldR cd_387_2226 rfl rfl ?_
  refine r_aldC cd_387_2227 rfl rfl ?_
  refine r_ild cd_387_2228 rfl rfl ?_
  refine r_con (v := 1) cd_387_2230 rfl (by decide) ?_
  refine r_add (v := ((i + 1 : Nat) : Int)) cd_387_2231 rfl (by omega) ?_
  refine r_arrS (i := i + 1) cd_387_2232 rfl rfl rfl (by rw [e1]; omega) (by rw [e1]; omega) ?_
  refine r_cI c2 cd_387_2233 rfl rfl rfl (rc0 m1 rfl) rfl rfl rfl ?_
  refine r_ist cd_387_2236 rfl rfl (L' := [aC 0, aR 0, aR 226, aR 236, aI ((i : Nat) : Int), aI cd, aI b, v7, v8]) rfl ?_
  refine r_aldR cd_387_2238 rfl rfl ?_
  refine r_cI j2.thr cd_387_2239 rfl rfl rfl (rc0 m2 rfl) rfl rfl rfl ?_
  refine r_ild cd_387_2242 rfl rfl ?_
  refine r_ic61e cd_387_2244 rfl (rfl) ?_
  refine r_ild cd_387_2249 rfl rfl ?_
  refine r_if52 cd_387_2251 rfl ⟨by omega, by omega⟩ (fun n2 => ?_) (fun n2 => ?_)
  · refine r_aldR cd_387_2254 rfl rfl ?_
    refine r_con (v := 0) cd_387_2255 rfl (by decide) ?_
    refine r_lld (i := 0) cd_387_2256 rfl o2 rfl (by omega) rfl ?_
    refine r_ild cd_387_2257 rfl rfl ?_
    refine r_i2l cd_387_2259 rfl ?_
    refine r_lcmp (v := 0) cd_387_2260 rfl (lg_eq (hcb n2)) ?_
    refine r_if51 cd_387_2261 rfl ⟨by omega, by omega⟩ (fun n3 => ?_) (fun n3 => ?_)
    · refine r_goto cd_387_2266 ?_
      exact k
    · exact absurd n3 (by decide)
  · refine r_goto cd_387_2266 ?_
    exact k
theorem la_42 (J : JJ h t g w ps kp T bu ek eo rl rp) (hi : i + 6 ≤ h.1.1) (hn : h.1.1 ≤ 3072) (hf : ∀ j, inR (h.1.2 j)) (hk : kc + 6 ≤ 601024) (hs : ks + 36 ≤ 7293034) : LW 2269 h i kc ks v5 v6 v7 v8 := by
  obtain ⟨h0, -⟩ := id J.1
  obtain ⟨h1, h2, cd, b, g1, w1, ps1, kp1, T1, bu1, ek1, eo1, rl1, rp1, c1, ⟨s1, m1⟩, c2, j2, hcb, e2, hc0, hc3, e1⟩ := l_42 J (h.1.2 (i + 1)) (hf _)
  rw [← e1] at c2
  obtain ⟨s2, m2⟩ := j2.mo
  have o2 := j2.2.2.2
  refine ⟨h2, _, _, _, _, _, _, _, _, _, _, _, kc + 1, ks + 6, aI cd, aI b, v7, v8, j2, e2, by omega, by omega, fun res k => ?_⟩
  refine r_aldR cd_387_2269 rfl rfl ?_
  refine r_aldC cd_387_2270 rfl rfl ?_
  refine r_ild cd_387_2271 rfl rfl ?_
  refine r_con (v := 1) cd_387_2273 rfl (by decide) ?_
  refine r_add (v := ((i + 1 : Nat) : Int)) cd_387_2274 rfl (by omega) ?_
  refine r_arrS (i := i + 1) cd_387_2275 rfl rfl rfl (by omega) (by omega) ?_
  refine r_aldR cd_387_2276 rfl rfl ?_
  refine r_dI (k1 := 1) (k2 := 6) (kc' := kc + 1) (ks' := ks + 6) c1 cd_387_2277 rfl rfl rfl True.intro rfl rfl rfl rfl (mbk (by omega)) (mbs (by omega)) rfl ?_
  refine r_ist cd_387_2280 rfl rfl (L' := [aC 0, aR 0, aR 226, aR 236, aI ((i : Nat) : Int), aI cd, v6, v7, v8]) rfl ?_
  refine r_aldR cd_387_2282 rfl rfl ?_
  refine r_aldC cd_387_2283 rfl rfl ?_
  refine r_ild cd_387_2284 rfl rfl ?_
  refine r_con (v := 1) cd_387_2286 rfl (by decide) ?_
  refine r_add (v := ((i + 1 : Nat) : Int)) cd_387_2287 rfl (by omega) ?_
  refine r_arrS (i := i + 1) cd_387_2288 rfl rfl rfl (by rw [e1]; omega) (by rw [e1]; omega) ?_
  refine r_cI c2 cd_387_2289 rfl rfl rfl (rc0 m1 rfl) rfl rfl rfl ?_
  refine r_ist cd_387_2292 rfl rfl (L' := [aC 0, aR 0, aR 226, aR 236, aI ((i : Nat) : Int), aI cd, aI b, v7, v8]) rfl ?_
  refine r_aldR cd_387_2294 rfl rfl ?_
  refine r_cI j2.thr cd_387_2295 rfl rfl rfl (rc0 m2 rfl) rfl rfl rfl ?_
  refine r_ild cd_387_2298 rfl rfl ?_
  refine r_ic61e cd_387_2300 rfl (rfl) ?_
  refine r_ild cd_387_2305 rfl rfl ?_
  refine r_if52 cd_387_2307 rfl ⟨by omega, by omega⟩ (fun n2 => ?_) (fun n2 => ?_)
  · refine r_aldR cd_387_2310 rfl rfl ?_
    refine r_con (v := 0) cd_387_2311 rfl (by decide) ?_
    refine r_lld (i := 0) cd_387_2312 rfl o2 rfl (by omega) rfl ?_
    refine r_ild cd_387_2313 rfl rfl ?_
    refine r_i2l cd_387_2315 rfl ?_
    refine r_lcmp (v := 0) cd_387_2316 rfl (lg_eq (hcb n2)) ?_
    refine r_if51 cd_387_2317 rfl ⟨by omega, by omega⟩ (fun n3 => ?_) (fun n3 => ?_)
    · refine r_goto cd_387_2322 ?_
      exact k
    · exact absurd n3 (by decide)
  · refine r_goto cd_387_2322 ?_
    exact k
theorem la_43 (J : JJ h t g w ps kp T bu ek eo rl rp) (hi : i + 6 ≤ h.1.1) (hn : h.1.1 ≤ 3072) (hf : ∀ j, inR (h.1.2 j)) (hk : kc + 6 ≤ 601024) (hs : ks + 36 ≤ 7293034) : LW 2325 h i kc ks v5 v6 v7 v8 := by
  obtain ⟨h0, -⟩ := id J.1
  obtain ⟨h1, h2, cd, b, g1, w1, ps1, kp1, T1, bu1, ek1, eo1, rl1, rp1, c1, ⟨s1, m1⟩, c2, j2, hcb, e2, hc0, hc3, e1⟩ := l_43 J (h.1.2 (i + 1)) (hf _)
  rw [← e1] at c2
  obtain ⟨s2, m2⟩ := j2.mo
  have o2 := j2.2.2.2
  refine ⟨h2, _, _, _, _, _, _, _, _, _, _, _, kc + 1, ks + 6, aI cd, aI b, v7, v8, j2, e2, by omega, by omega, fun res k => ?_⟩
  refine r_aldR cd_387_2325 rfl rfl ?_
  refine r_aldC cd_387_2326 rfl rfl ?_
  refine r_ild cd_387_2327 rfl rfl ?_
  refine r_con (v := 1) cd_387_2329 rfl (by decide) ?_
  refine r_add (v := ((i + 1 : Nat) : Int)) cd_387_2330 rfl (by omega) ?_
  refine r_arrS (i := i + 1) cd_387_2331 rfl rfl rfl (by omega) (by omega) ?_
  refine r_aldR cd_387_2332 rfl rfl ?_
  refine r_dI (k1 := 1) (k2 := 6) (kc' := kc + 1) (ks' := ks + 6) c1 cd_387_2333 rfl rfl rfl True.intro rfl rfl rfl rfl (mbk (by omega)) (mbs (by omega)) rfl ?_
  refine r_ist cd_387_2336 rfl rfl (L' := [aC 0, aR 0, aR 226, aR 236, aI ((i : Nat) : Int), aI cd, v6, v7, v8]) rfl ?_
  refine r_aldR cd_387_2338 rfl rfl ?_
  refine r_aldC cd_387_2339 rfl rfl ?_
  refine r_ild cd_387_2340 rfl rfl ?_
  refine r_con (v := 1) cd_387_2342 rfl (by decide) ?_
  refine r_add (v := ((i + 1 : Nat) : Int)) cd_387_2343 rfl (by omega) ?_
  refine r_arrS (i := i + 1) cd_387_2344 rfl rfl rfl (by rw [e1]; omega) (by rw [e1]; omega) ?_
  refine r_cI c2 cd_387_2345 rfl rfl rfl (rc0 m1 rfl) rfl rfl rfl ?_
  refine r_ist cd_387_2348 rfl rfl (L' := [aC 0, aR 0, aR 226, aR 236, aI ((i : Nat) : Int), aI cd, aI b, v7, v8]) rfl ?_
  refine r_aldR cd_387_2350 rfl rfl ?_
  refine r_cI j2.thr cd_387_2351 rfl rfl rfl (rc0 m2 rfl) rfl rfl rfl ?_
  refine r_ild cd_387_2354 rfl rfl ?_
  refine r_ic61e cd_387_2356 rfl (rfl) ?_
  refine r_ild cd_387_2361 rfl rfl ?_
  refine r_if52 cd_387_2363 rfl ⟨by omega, by omega⟩ (fun n2 => ?_) (fun n2 => ?_)
  · refine r_aldR cd_387_2366 rfl rfl ?_
    refine r_con (v := 0) cd_387_2367 rfl (by decide) ?_
    refine r_lld (i := 0) cd_387_2368 rfl o2 rfl (by omega) rfl ?_
    refine r_ild cd_387_2369 rfl rfl ?_
    refine r_i2l cd_387_2371 rfl ?_
    refine r_lcmp (v := 0) cd_387_2372 rfl (lg_eq (hcb n2)) ?_
    refine r_if51 cd_387_2373 rfl ⟨by omega, by omega⟩ (fun n3 => ?_) (fun n3 => ?_)
    · refine r_goto cd_387_2378 ?_
      exact k
    · exact absurd n3 (by decide)
  · refine r_goto cd_387_2378 ?_
    exact k
theorem la_44 (J : JJ h t g w ps kp T bu ek eo rl rp) (hi : i + 6 ≤ h.1.1) (hn : h.1.1 ≤ 3072) (hf : ∀ j, inR (h.1.2 j)) (hk : kc + 6 ≤ 601024) (hs : ks + 36 ≤ 7293034) : LW 2381 h i kc ks v5 v6 v7 v8 := by
  obtain ⟨h0, -⟩ := id J.1
  obtain ⟨h1, h2, cd, b, g1, w1, ps1, kp1, T1, bu1, ek1, eo1, rl1, rp1, c1, ⟨s1, m1⟩, c2, j2, hcb, e2, hc0, hc3, e1⟩ := l_44 J (h.1.2 (i + 1)) (hf _)
  rw [← e1] at c2
  obtain ⟨s2, m2⟩ := j2.mo
  have o2 := j2.2.2.2
  refine ⟨h2, _, _, _, _, _, _, _, _, _, _, _, kc + 1, ks + 6, aI cd, aI b, v7, v8, j2, e2, by omega, by omega, fun res k => ?_⟩
  refine r_aldR cd_387_2381 rfl rfl ?_
  refine r_aldC cd_387_2382 rfl rfl ?_
  refine r_ild cd_387_2383 rfl rfl ?_
  refine r_con (v := 1) cd_387_2385 rfl (by decide) ?_
  refine r_add (v := ((i + 1 : Nat) : Int)) cd_387_2386 rfl (by omega) ?_
  refine r_arrS (i := i + 1) cd_387_2387 rfl rfl rfl (by omega) (by omega) ?_
  refine r_aldR cd_387_2388 rfl rfl ?_
  refine r_dI (k1 := 1) (k2 := 6) (kc' := kc + 1) (ks' := ks + 6) c1 cd_387_2389 rfl rfl rfl True.intro rfl rfl rfl rfl (mbk (by omega)) (mbs (by omega)) rfl ?_
  refine r_ist cd_387_2392 rfl rfl (L' := [aC 0, aR 0, aR 226, aR 236, aI ((i : Nat) : Int), aI cd, v6, v7, v8]) rfl ?_
  refine r_aldR cd_387_2394 rfl rfl ?_
  refine r_aldC cd_387_2395 rfl rfl ?_
  refine r_ild cd_387_2396 rfl rfl ?_
  refine r_con (v := 1) cd_387_2398 rfl (by decide) ?_
  refine r_add (v := ((i + 1 : Nat) : Int)) cd_387_2399 rfl (by omega) ?_
  refine r_arrS (i := i + 1) cd_387_2400 rfl rfl rfl (by rw [e1]; omega) (by rw [e1]; omega) ?_
  refine r_cI c2 cd_387_2401 rfl rfl rfl (rc0 m1 rfl) rfl rfl rfl ?_
  refine r_ist cd_387_2404 rfl rfl (L' := [aC 0, aR 0, aR 226, aR 236, aI ((i : Nat) : Int), aI cd, aI b, v7, v8]) rfl ?_
  refine r_aldR cd_387_2406 rfl rfl ?_
  refine r_cI j2.thr cd_387_2407 rfl rfl rfl (rc0 m2 rfl) rfl rfl rfl ?_
  refine r_ild cd_387_2410 rfl rfl ?_
  refine r_ic61e cd_387_2412 rfl (rfl) ?_
  refine r_ild cd_387_2417 rfl rfl ?_
  refine r_if52 cd_387_2419 rfl ⟨by omega, by omega⟩ (fun n2 => ?_) (fun n2 => ?_)
  · refine r_aldR cd_387_2422 rfl rfl ?_
    refine r_con (v := 0) cd_387_2423 rfl (by decide) ?_
    refine r_lld (i := 0) cd_387_2424 rfl o2 rfl (by omega) rfl ?_
    refine r_ild cd_387_2425 rfl rfl ?_
    refine r_i2l cd_387_2427 rfl ?_
    refine r_lcmp (v := 0) cd_387_2428 rfl (lg_eq (hcb n2)) ?_
    refine r_if51 cd_387_2429 rfl ⟨by omega, by omega⟩ (fun n3 => ?_) (fun n3 => ?_)
    · refine r_goto cd_387_2434 ?_
      exact k
    · exact absurd n3 (by decide)
  · refine r_goto cd_387_2434 ?_
    exact k
theorem la_45 (J : JJ h t g w ps kp T bu ek eo rl rp) (hi : i + 6 ≤ h.1.1) (hn : h.1.1 ≤ 3072) (hf : ∀ j, inR (h.1.2 j)) (hk : kc + 6 ≤ 601024) (hs : ks + 36 ≤ 7293034) : LW 2437 h i kc ks v5 v6 v7 v8 := by
  obtain ⟨h0, -⟩ := id J.1
  obtain ⟨h1, h2, cd, b, g1, w1, ps1, kp1, T1, bu1, ek1, eo1, rl1, rp1, c1, ⟨s1, m1⟩, c2, j2, hcb, e2, hc0, hc3, e1⟩ := l_45 J (h.1.2 (i + 1)) (hf _)
  rw [← e1] at c2
  obtain ⟨s2, m2⟩ := j2.mo
  have o2 := j2.2.2.2
  refine ⟨h2, _, _, _, _, _, _, _, _, _, _, _, kc + 1, ks + 6, aI cd, aI b, v7, v8, j2, e2, by omega, by omega, fun res k => ?_⟩
  refine r_aldR cd_387_2437 rfl rfl ?_
  refine r_aldC cd_387_2438 rfl rfl ?_
  refine r_ild cd_387_2439 rfl rfl ?_
  refine r_con (v := 1) cd_387_2441 rfl (by decide) ?_
  refine r_add (v := ((i + 1 : Nat) : Int)) cd_387_2442 rfl (by omega) ?_
  refine r_arrS (i := i + 1) cd_387_2443 rfl rfl rfl (by omega) (by omega) ?_
  refine r_aldR cd_387_2444 rfl rfl ?_
  refine r_dI (k1 := 1) (k2 := 6) (kc' := kc + 1) (ks' := ks + 6) c1 cd_387_2445 rfl rfl rfl True.intro rfl rfl rfl rfl (mbk (by omega)) (mbs (by omega)) rfl ?_
  refine r_ist cd_387_2448 rfl rfl (L' := [aC 0, aR 0, aR 226, aR 236, aI ((i : Nat) : Int), aI cd, v6, v7, v8]) rfl ?_
  refine r_aldR cd_387_2450 rfl rfl ?_
  refine r_aldC cd_387_2451 rfl rfl ?_
  refine r_ild cd_387_2452 rfl rfl ?_
  refine r_con (v := 1) cd_387_2454 rfl (by decide) ?_
  refine r_add (v := ((i + 1 : Nat) : Int)) cd_387_2455 rfl (by omega) ?_
  refine r_arrS (i := i + 1) cd_387_2456 rfl rfl rfl (by rw [e1]; omega) (by rw [e1]; omega) ?_
  refine r_cI c2 cd_387_2457 rfl rfl rfl (rc0 m1 rfl) rfl rfl rfl ?_
  refine r_ist cd_387_2460 rfl rfl (L' := [aC 0, aR 0, aR 226, aR 236, aI ((i : Nat) : Int), aI cd, aI b, v7, v8]) rfl ?_
  refine r_aldR cd_387_2462 rfl rfl ?_
  refine r_cI j2.thr cd_387_2463 rfl rfl rfl (rc0 m2 rfl) rfl rfl rfl ?_
  refine r_ild cd_387_2466 rfl rfl ?_
  refine r_ic61e cd_387_2468 rfl (rfl) ?_
  refine r_ild cd_387_2473 rfl rfl ?_
  refine r_if52 cd_387_2475 rfl ⟨by omega, by omega⟩ (fun n2 => ?_) (fun n2 => ?_)
  · refine r_aldR cd_387_2478 rfl rfl ?_
    refine r_con (v := 0) cd_387_2479 rfl (by decide) ?_
    refine r_lld (i := 0) cd_387_2480 rfl o2 rfl (by omega) rfl ?_
    refine r_ild cd_387_2481 rfl rfl ?_
    refine r_i2l cd_387_2483 rfl ?_
    refine r_lcmp (v := 0) cd_387_2484 rfl (lg_eq (hcb n2)) ?_
    refine r_if51 cd_387_2485 rfl ⟨by omega, by omega⟩ (fun n3 => ?_) (fun n3 => ?_)
    · refine r_goto cd_387_2490 ?_
      exact k
    · exact absurd n3 (by decide)
  · refine r_goto cd_387_2490 ?_
    exact k
theorem la_46 (J : JJ h t g w ps kp T bu ek eo rl rp) (hi : i + 6 ≤ h.1.1) (hn : h.1.1 ≤ 3072) (hf : ∀ j, inR (h.1.2 j)) (hk : kc + 6 ≤ 601024) (hs : ks + 36 ≤ 7293034) : LW 2493 h i kc ks v5 v6 v7 v8 := by
  obtain ⟨h0, -⟩ := id J.1
  obtain ⟨h1, h2, cd, b, g1, w1, ps1, kp1, T1, bu1, ek1, eo1, rl1, rp1, c1, ⟨s1, m1⟩, c2, j2, hcb, e2, hc0, hc3, e1⟩ := l_46 J (h.1.2 (i + 1)) (hf _)
  rw [← e1] at c2
  obtain ⟨s2, m2⟩ := j2.mo
  have o2 := j2.2.2.2
  refine ⟨h2, _, _, _, _, _, _, _, _, _, _, _, kc + 1, ks + 6, aI cd, aI b, v7, v8, j2, e2, by omega, by omega, fun res k => ?_⟩
  refine r_aldR cd_387_2493 rfl rfl ?_
  refine r_aldC cd_387_2494 rfl rfl ?_
  refine r_ild cd_387_2495 rfl rfl ?_
  refine r_con (v := 1) cd_387_2497 rfl (by decide) ?_
  refine r_add (v := ((i + 1 : Nat) : Int)) cd_387_2498 rfl (by omega) ?_
  refine r_arrS (i := i + 1) cd_387_2499 rfl rfl rfl (by omega) (by omega) ?_
  refine r_aldR cd_387_2500 rfl rfl ?_
  refine r_dI (k1 := 1) (k2 := 6) (kc' := kc + 1) (ks' := ks + 6) c1 cd_387_2501 rfl rfl rfl True.intro rfl rfl rfl rfl (mbk (by omega)) (mbs (by omega)) rfl ?_
  refine r_ist cd_387_2504 rfl rfl (L' := [aC 0, aR 0, aR 226, aR 236, aI ((i : Nat) : Int), aI cd, v6, v7, v8]) rfl ?_
  refine r_aldR cd_387_2506 rfl rfl ?_
  refine r_aldC cd_387_2507 rfl rfl ?_
  refine r_ild cd_387_2508 rfl rfl ?_
  refine r_con (v := 1) cd_387_2510 rfl (by decide) ?_
  refine r_add (v := ((i + 1 : Nat) : Int)) cd_387_2511 rfl (by omega) ?_
  refine r_arrS (i := i + 1) cd_387_2512 rfl rfl rfl (by rw [e1]; omega) (by rw [e1]; omega) ?_
  refine r_cI c2 cd_387_2513 rfl rfl rfl (rc0 m1 rfl) rfl rfl rfl ?_
  refine r_ist cd_387_2516 rfl rfl (L' := [aC 0, aR 0, aR 226, aR 236, aI ((i : Nat) : Int), aI cd, aI b, v7, v8]) rfl ?_
  refine r_aldR cd_387_2518 rfl rfl ?_
  refine r_cI j2.thr cd_387_2519 rfl rfl rfl (rc0 m2 rfl) rfl rfl rfl ?_
  refine r_ild cd_387_2522 rfl rfl ?_
  refine r_ic61e cd_387_2524 rfl (rfl) ?_
  refine r_ild cd_387_2529 rfl rfl ?_
  refine r_if52 cd_387_2531 rfl ⟨by omega, by omega⟩ (fun n2 => ?_) (fun n2 => ?_)
  · refine r_aldR cd_387_2534 rfl rfl ?_
    refine r_con (v := 0) cd_387_2535 rfl (by decide) ?_
    refine r_lld (i := 0) cd_387_2536 rfl o2 rfl (by omega) rfl ?_
    refine r_ild cd_387_2537 rfl rfl ?_
    refine r_i2l cd_387_2539 rfl ?_
    refine r_lcmp (v := 0) cd_387_2540 rfl (lg_eq (hcb n2)) ?_
    refine r_if51 cd_387_2541 rfl ⟨by omega, by omega⟩ (fun n3 => ?_) (fun n3 => ?_)
    · refine r_goto cd_387_2546 ?_
      exact k
    · exact absurd n3 (by decide)
  · refine r_goto cd_387_2546 ?_
    exact k
theorem la_47 (J : JJ h t g w ps kp T bu ek eo rl rp) (hi : i + 6 ≤ h.1.1) (hn : h.1.1 ≤ 3072) (hf : ∀ j, inR (h.1.2 j)) (hk : kc + 6 ≤ 601024) (hs : ks + 36 ≤ 7293034) : LW 2549 h i kc ks v5 v6 v7 v8 := by
  obtain ⟨h0, -⟩ := id J.1
  obtain ⟨h1, h2, v, t1, g1, w1, ps1, kp1, T1, bu1, ek1, eo1, rl1, rp1, c1, ⟨s1, m1⟩, c2, j2, e2, e1⟩ := l_47 J (h.1.2 (i + 1)) (hf _)
  rw [← e1] at c2
  obtain ⟨s2, m2⟩ := j2.mo
  have o2 := j2.2.2.2
  refine ⟨h2, _, _, _, _, _, _, _, _, _, _, _, kc, ks, v5, v6, v7, v8, j2, e2, by omega, by omega, fun res k => ?_⟩
  refine r_aldR cd_387_2549 rfl rfl ?_
  refine r_aldC cd_387_2550 rfl rfl ?_
  refine r_ild cd_387_2551 rfl rfl ?_
  refine r_con (v := 1) cd_387_2553 rfl (by decide) ?_
  refine r_add (v := ((i + 1 : Nat) : Int)) cd_387_2554 rfl (by omega) ?_
  refine r_arrS (i := i + 1) cd_387_2555 rfl rfl rfl (by omega) (by omega) ?_
  refine r_cI c1 cd_387_2556 rfl rfl rfl (rc0 h0 rfl) rfl rfl rfl ?_
  refine r_aldR cd_387_2559 rfl rfl ?_
  refine r_aldC cd_387_2560 rfl rfl ?_
  refine r_ild cd_387_2561 rfl rfl ?_
  refine r_con (v := 1) cd_387_2563 rfl (by decide) ?_
  refine r_add (v := ((i + 1 : Nat) : Int)) cd_387_2564 rfl (by omega) ?_
  refine r_arrS (i := i + 1) cd_387_2565 rfl rfl rfl (by rw [e1]; omega) (by rw [e1]; omega) ?_
  refine r_cI c2 cd_387_2566 rfl rfl rfl (rc0 m1 rfl) rfl rfl rfl ?_
  refine r_ic61e cd_387_2569 rfl (rfl) ?_
  exact k
theorem la_48 (J : JJ h t g w ps kp T bu ek eo rl rp) (hi : i + 6 ≤ h.1.1) (hn : h.1.1 ≤ 3072) (hf : ∀ j, inR (h.1.2 j)) (hk : kc + 6 ≤ 601024) (hs : ks + 36 ≤ 7293034) : LW 2574 h i kc ks v5 v6 v7 v8 := by
  obtain ⟨h0, -⟩ := id J.1
  obtain ⟨h1, h2, cd, b, g1, w1, ps1, kp1, T1, bu1, ek1, eo1, rl1, rp1, c1, ⟨s1, m1⟩, c2, j2, hcb, e2, hc0, hc3, e1⟩ := l_48 J (h.1.2 (i + 1)) (hf _) (h.1.2 (i + 2)) (hf _)
  rw [← e1] at c2
  obtain ⟨s2, m2⟩ := j2.mo
  have o2 := j2.2.2.2
  refine ⟨h2, _, _, _, _, _, _, _, _, _, _, _, kc + 2, ks + 12, aI cd, aI b, v7, v8, j2, e2, by omega, by omega, fun res k => ?_⟩
  refine r_aldR cd_387_2574 rfl rfl ?_
  refine r_aldC cd_387_2575 rfl rfl ?_
  refine r_ild cd_387_2576 rfl rfl ?_
  refine r_con (v := 1) cd_387_2578 rfl (by decide) ?_
  refine r_add (v := ((i + 1 : Nat) : Int)) cd_387_2579 rfl (by omega) ?_
  refine r_arrS (i := i + 1) cd_387_2580 rfl rfl rfl (by omega) (by omega) ?_
  refine r_aldC cd_387_2581 rfl rfl ?_
  refine r_ild cd_387_2582 rfl rfl ?_
  refine r_con (v := 2) cd_387_2584 rfl (by decide) ?_
  refine r_add (v := ((i + 2 : Nat) : Int)) cd_387_2585 rfl (by omega) ?_
  refine r_arrS (i := i + 2) cd_387_2586 rfl rfl rfl (by omega) (by omega) ?_
  refine r_aldR cd_387_2587 rfl rfl ?_
  refine r_dI (k1 := 2) (k2 := 12) (kc' := kc + 2) (ks' := ks + 12) c1 cd_387_2588 rfl rfl rfl True.intro rfl rfl rfl rfl (mbk (by omega)) (mbs (by omega)) rfl ?_
  refine r_ist cd_387_2591 rfl rfl (L' := [aC 0, aR 0, aR 226, aR 236, aI ((i : Nat) : Int), aI cd, v6, v7, v8]) rfl ?_
  refine r_aldR cd_387_2593 rfl rfl ?_
  refine r_aldC cd_387_2594 rfl rfl ?_
  refine r_ild cd_387_2595 rfl rfl ?_
  refine r_con (v := 1) cd_387_2597 rfl (by decide) ?_
  refine r_add (v := ((i + 1 : Nat) : Int)) cd_387_2598 rfl (by omega) ?_
  refine r_arrS (i := i + 1) cd_387_2599 rfl rfl rfl (by rw [e1]; omega) (by rw [e1]; omega) ?_
  refine r_aldC cd_387_2600 rfl rfl ?_
  refine r_ild cd_387_2601 rfl rfl ?_
  refine r_con (v := 2) cd_387_2603 rfl (by decide) ?_
  refine r_add (v := ((i + 2 : Nat) : Int)) cd_387_2604 rfl (by omega) ?_
  refine r_arrS (i := i + 2) cd_387_2605 rfl rfl rfl (by rw [e1]; omega) (by rw [e1]; omega) ?_
  refine r_cI c2 cd_387_2606 rfl rfl rfl (rc0 m1 rfl) rfl rfl rfl ?_
  refine r_ist cd_387_2609 rfl rfl (L' := [aC 0, aR 0, aR 226, aR 236, aI ((i : Nat) : Int), aI cd, aI b, v7, v8]) rfl ?_
  refine r_aldR cd_387_2611 rfl rfl ?_
  refine r_cI j2.thr cd_387_2612 rfl rfl rfl (rc0 m2 rfl) rfl rfl rfl ?_
  refine r_ild cd_387_2615 rfl rfl ?_
  refine r_ic61e cd_387_2617 rfl (rfl) ?_
  refine r_ild cd_387_2622 rfl rfl ?_
  refine r_if52 cd_387_2624 rfl ⟨by omega, by omega⟩ (fun n2 => ?_) (fun n2 => ?_)
  · refine r_aldR cd_387_2627 rfl rfl ?_
    refine r_con (v := 0) cd_387_2628 rfl (by decide) ?_
    refine r_lld (i := 0) cd_387_2629 rfl o2 rfl (by omega) rfl ?_
    refine r_ild cd_387_2630 rfl rfl ?_
    refine r_i2l cd_387_2632 rfl ?_
    refine r_lcmp (v := 0) cd_387_2633 rfl (lg_eq (hcb n2)) ?_
    refine r_if51 cd_387_2634 rfl ⟨by omega, by omega⟩ (fun n3 => ?_) (fun n3 => ?_)
    · refine r_goto cd_387_2639 ?_
      exact k
    · exact absurd n3 (by decide)
  · refine r_goto cd_387_2639 ?_
    exact k
theorem la_49 (J : JJ h t g w ps kp T bu ek eo rl rp) (hi : i + 6 ≤ h.1.1) (hn : h.1.1 ≤ 3072) (hf : ∀ j, inR (h.1.2 j)) (hk : kc + 6 ≤ 601024) (hs : ks + 36 ≤ 7293034) : LW 2642 h i kc ks v5 v6 v7 v8 := by
  obtain ⟨h0, -⟩ := id J.1
  obtain ⟨h1, h2, cd, b, g1, w1, ps1, kp1, T1, bu1, ek1, eo1, rl1, rp1, c1, ⟨s1, m1⟩, c2, j2, hcb, e2, hc0, hc3, e1⟩ := l_49 J (h.1.2 (i + 1)) (hf _)
  rw [← e1] at c2
  obtain ⟨s2, m2⟩ := j2.mo
  have o2 := j2.2.2.2
  refine ⟨h2, _, _, _, _, _, _, _, _, _, _, _, kc + 1, ks + 6, aI cd, aI b, v7, v8, j2, e2, by omega, by omega, fun res k => ?_⟩
  refine r_aldR cd_387_2642 rfl rfl ?_
  refine r_aldC cd_387_2643 rfl rfl ?_
  refine r_ild cd_387_2644 rfl rfl ?_
  refine r_con (v := 1) cd_387_2646 rfl (by decide) ?_
  refine r_add (v := ((i + 1 : Nat) : Int)) cd_387_2647 rfl (by omega) ?_
  refine r_arrS (i := i + 1) cd_387_2648 rfl rfl rfl (by omega) (by omega) ?_
  refine r_aldR cd_387_2649 rfl rfl ?_
  refine r_dI (k1 := 1) (k2 := 6) (kc' := kc + 1) (ks' := ks + 6) c1 cd_387_2650 rfl rfl rfl True.intro rfl rfl rfl rfl (mbk (by omega)) (mbs (by omega)) rfl ?_
  refine r_ist cd_387_2653 rfl rfl (L' := [aC 0, aR 0, aR 226, aR 236, aI ((i : Nat) : Int), aI cd, v6, v7, v8]) rfl ?_
  refine r_aldR cd_387_2655 rfl rfl ?_
  refine r_aldC cd_387_2656 rfl rfl ?_
  refine r_ild cd_387_2657 rfl rfl ?_
  refine r_con (v := 1) cd_387_2659 rfl (by decide) ?_
  refine r_add (v := ((i + 1 : Nat) : Int)) cd_387_2660 rfl (by omega) ?_
  refine r_arrS (i := i + 1) cd_387_2661 rfl rfl rfl (by rw [e1]; omega) (by rw [e1]; omega) ?_
  refine r_cI c2 cd_387_2662 rfl rfl rfl (rc0 m1 rfl) rfl rfl rfl ?_
  refine r_ist cd_387_2665 rfl rfl (L' := [aC 0, aR 0, aR 226, aR 236, aI ((i : Nat) : Int), aI cd, aI b, v7, v8]) rfl ?_
  refine r_aldR cd_387_2667 rfl rfl ?_
  refine r_cI j2.thr cd_387_2668 rfl rfl rfl (rc0 m2 rfl) rfl rfl rfl ?_
  refine r_ild cd_387_2671 rfl rfl ?_
  refine r_ic61e cd_387_2673 rfl (rfl) ?_
  refine r_ild cd_387_2678 rfl rfl ?_
  refine r_if52 cd_387_2680 rfl ⟨by omega, by omega⟩ (fun n2 => ?_) (fun n2 => ?_)
  · refine r_aldR cd_387_2683 rfl rfl ?_
    refine r_con (v := 0) cd_387_2684 rfl (by decide) ?_
    refine r_lld (i := 0) cd_387_2685 rfl o2 rfl (by omega) rfl ?_
    refine r_ild cd_387_2686 rfl rfl ?_
    refine r_i2l cd_387_2688 rfl ?_
    refine r_lcmp (v := 0) cd_387_2689 rfl (lg_eq (hcb n2)) ?_
    refine r_if51 cd_387_2690 rfl ⟨by omega, by omega⟩ (fun n3 => ?_) (fun n3 => ?_)
    · refine r_goto cd_387_2695 ?_
      exact k
    · exact absurd n3 (by decide)
  · refine r_goto cd_387_2695 ?_
    exact k
theorem la_50 (J : JJ h t g w ps kp T bu ek eo rl rp) (hi : i + 6 ≤ h.1.1) (hn : h.1.1 ≤ 3072) (hf : ∀ j, inR (h.1.2 j)) (hk : kc + 6 ≤ 601024) (hs : ks + 36 ≤ 7293034) : LW 2698 h i kc ks v5 v6 v7 v8 := by
  obtain ⟨h0, -⟩ := id J.1
  obtain ⟨h1, h2, cd, b, g1, w1, ps1, kp1, T1, bu1, ek1, eo1, rl1, rp1, c1, ⟨s1, m1⟩, c2, j2, hcb, e2, hc0, hc3, e1⟩ := l_50 J (h.1.2 (i + 1)) (hf _)
  rw [← e1] at c2
  obtain ⟨s2, m2⟩ := j2.mo
  have o2 := j2.2.2.2
  refine ⟨h2, _, _, _, _, _, _, _, _, _, _, _, kc + 1, ks + 6, aI cd, aI b, v7, v8, j2, e2, by omega, by omega, fun res k => ?_⟩
  refine r_aldR cd_387_2698 rfl rfl ?_
  refine r_aldC cd_387_2699 rfl rfl ?_
  refine r_ild cd_387_2700 rfl rfl ?_
  refine r_con (v := 1) cd_387_2702 rfl (by decide) ?_
  refine r_add (v := ((i + 1 : Nat) : Int)) cd_387_2703 rfl (by omega) ?_
  refine r_arrS (i := i + 1) cd_387_2704 rfl rfl rfl (by omega) (by omega) ?_
  refine r_aldR cd_387_2705 rfl rfl ?_
  refine r_dI (k1 := 1) (k2 := 6) (kc' := kc + 1) (ks' := ks + 6) c1 cd_387_2706 rfl rfl rfl True.intro rfl rfl rfl rfl (mbk (by omega)) (mbs (by omega)) rfl ?_
  refine r_ist cd_387_2709 rfl rfl (L' := [aC 0, aR 0, aR 226, aR 236, aI ((i : Nat) : Int), aI cd, v6, v7, v8]) rfl ?_
  refine r_aldR cd_387_2711 rfl rfl ?_
  refine r_aldC cd_387_2712 rfl rfl ?_
  refine r_ild cd_387_2713 rfl rfl ?_
  refine r_con (v := 1) cd_387_2715 rfl (by decide) ?_
  refine r_add (v := ((i + 1 : Nat) : Int)) cd_387_2716 rfl (by omega) ?_
  refine r_arrS (i := i + 1) cd_387_2717 rfl rfl rfl (by rw [e1]; omega) (by rw [e1]; omega) ?_
  refine r_cI c2 cd_387_2718 rfl rfl rfl (rc0 m1 rfl) rfl rfl rfl ?_
  refine r_ist cd_387_2721 rfl rfl (L' := [aC 0, aR 0, aR 226, aR 236, aI ((i : Nat) : Int), aI cd, aI b, v7, v8]) rfl ?_
  refine r_aldR cd_387_2723 rfl rfl ?_
  refine r_cI j2.thr cd_387_2724 rfl rfl rfl (rc0 m2 rfl) rfl rfl rfl ?_
  refine r_ild cd_387_2727 rfl rfl ?_
  refine r_ic61e cd_387_2729 rfl (rfl) ?_
  refine r_ild cd_387_2734 rfl rfl ?_
  refine r_if52 cd_387_2736 rfl ⟨by omega, by omega⟩ (fun n2 => ?_) (fun n2 => ?_)
  · refine r_aldR cd_387_2739 rfl rfl ?_
    refine r_con (v := 0) cd_387_2740 rfl (by decide) ?_
    refine r_lld (i := 0) cd_387_2741 rfl o2 rfl (by omega) rfl ?_
    refine r_ild cd_387_2742 rfl rfl ?_
    refine r_i2l cd_387_2744 rfl ?_
    refine r_lcmp (v := 0) cd_387_2745 rfl (lg_eq (hcb n2)) ?_
    refine r_if51 cd_387_2746 rfl ⟨by omega, by omega⟩ (fun n3 => ?_) (fun n3 => ?_)
    · refine r_goto cd_387_2751 ?_
      exact k
    · exact absurd n3 (by decide)
  · refine r_goto cd_387_2751 ?_
    exact k
theorem la_51 (J : JJ h t g w ps kp T bu ek eo rl rp) (hi : i + 6 ≤ h.1.1) (hn : h.1.1 ≤ 3072) (hf : ∀ j, inR (h.1.2 j)) (hk : kc + 6 ≤ 601024) (hs : ks + 36 ≤ 7293034) : LW 2754 h i kc ks v5 v6 v7 v8 := by
  obtain ⟨h0, -⟩ := id J.1
  obtain ⟨h1, h2, cd, b, g1, w1, ps1, kp1, T1, bu1, ek1, eo1, rl1, rp1, c1, ⟨s1, m1⟩, c2, j2, hcb, e2, hc0, hc3, e1⟩ := l_51 J (h.1.2 (i + 1)) (hf _)
  rw [← e1] at c2
  obtain ⟨s2, m2⟩ := j2.mo
  have o2 := j2.2.2.2
  refine ⟨h2, _, _, _, _, _, _, _, _, _, _, _, kc + 1, ks + 6, aI cd, aI b, v7, v8, j2, e2, by omega, by omega, fun res k => ?_⟩
  refine r_aldR cd_387_2754 rfl rfl ?_
  refine r_aldC cd_387_2755 rfl rfl ?_
  refine r_ild cd_387_2756 rfl rfl ?_
  refine r_con (v := 1) cd_387_2758 rfl (by decide) ?_
  refine r_add (v := ((i + 1 : Nat) : Int)) cd_387_2759 rfl (by omega) ?_
  refine r_arrS (i := i + 1) cd_387_2760 rfl rfl rfl (by omega) (by omega) ?_
  refine r_aldR cd_387_2761 rfl rfl ?_
  refine r_dI (k1 := 1) (k2 := 6) (kc' := kc + 1) (ks' := ks + 6) c1 cd_387_2762 rfl rfl rfl True.intro rfl rfl rfl rfl (mbk (by omega)) (mbs (by omega)) rfl ?_
  refine r_ist cd_387_2765 rfl rfl (L' := [aC 0, aR 0, aR 226, aR 236, aI ((i : Nat) : Int), aI cd, v6, v7, v8]) rfl ?_
  refine r_aldR cd_387_2767 rfl rfl ?_
  refine r_aldC cd_387_2768 rfl rfl ?_
  refine r_ild cd_387_2769 rfl rfl ?_
  refine r_con (v := 1) cd_387_2771 rfl (by decide) ?_
  refine r_add (v := ((i + 1 : Nat) : Int)) cd_387_2772 rfl (by omega) ?_
  refine r_arrS (i := i + 1) cd_387_2773 rfl rfl rfl (by rw [e1]; omega) (by rw [e1]; omega) ?_
  refine r_cI c2 cd_387_2774 rfl rfl rfl (rc0 m1 rfl) rfl rfl rfl ?_
  refine r_ist cd_387_2777 rfl rfl (L' := [aC 0, aR 0, aR 226, aR 236, aI ((i : Nat) : Int), aI cd, aI b, v7, v8]) rfl ?_
  refine r_aldR cd_387_2779 rfl rfl ?_
  refine r_cI j2.thr cd_387_2780 rfl rfl rfl (rc0 m2 rfl) rfl rfl rfl ?_
  refine r_ild cd_387_2783 rfl rfl ?_
  refine r_ic61e cd_387_2785 rfl (rfl) ?_
  refine r_ild cd_387_2790 rfl rfl ?_
  refine r_if52 cd_387_2792 rfl ⟨by omega, by omega⟩ (fun n2 => ?_) (fun n2 => ?_)
  · refine r_aldR cd_387_2795 rfl rfl ?_
    refine r_con (v := 0) cd_387_2796 rfl (by decide) ?_
    refine r_lld (i := 0) cd_387_2797 rfl o2 rfl (by omega) rfl ?_
    refine r_ild cd_387_2798 rfl rfl ?_
    refine r_i2l cd_387_2800 rfl ?_
    refine r_lcmp (v := 0) cd_387_2801 rfl (lg_eq (hcb n2)) ?_
    refine r_if51 cd_387_2802 rfl ⟨by omega, by omega⟩ (fun n3 => ?_) (fun n3 => ?_)
    · refine r_goto cd_387_2807 ?_
      exact k
    · exact absurd n3 (by decide)
  · refine r_goto cd_387_2807 ?_
    exact k
theorem la_52 (J : JJ h t g w ps kp T bu ek eo rl rp) (hi : i + 6 ≤ h.1.1) (hn : h.1.1 ≤ 3072) (hf : ∀ j, inR (h.1.2 j)) (hk : kc + 6 ≤ 601024) (hs : ks + 36 ≤ 7293034) : LW 2810 h i kc ks v5 v6 v7 v8 := by
  obtain ⟨h0, -⟩ := id J.1
  obtain ⟨h1, h2, cd, b, g1, w1, ps1, kp1, T1, bu1, ek1, eo1, rl1, rp1, c1, ⟨s1, m1⟩, c2, j2, hcb, e2, hc0, hc3, e1⟩ := l_52 J (h.1.2 (i + 1)) (hf _) (h.1.2 (i + 2)) (hf _)
  rw [← e1] at c2
  obtain ⟨s2, m2⟩ := j2.mo
  have o2 := j2.2.2.2
  refine ⟨h2, _, _, _, _, _, _, _, _, _, _, _, kc + 2, ks + 12, aI cd, aI b, v7, v8, j2, e2, by omega, by omega, fun res k => ?_⟩
  refine r_aldR cd_387_2810 rfl rfl ?_
  refine r_aldC cd_387_2811 rfl rfl ?_
  refine r_ild cd_387_2812 rfl rfl ?_
  refine r_con (v := 1) cd_387_2814 rfl (by decide) ?_
  refine r_add (v := ((i + 1 : Nat) : Int)) cd_387_2815 rfl (by omega) ?_
  refine r_arrS (i := i + 1) cd_387_2816 rfl rfl rfl (by omega) (by omega) ?_
  refine r_aldC cd_387_2817 rfl rfl ?_
  refine r_ild cd_387_2818 rfl rfl ?_
  refine r_con (v := 2) cd_387_2820 rfl (by decide) ?_
  refine r_add (v := ((i + 2 : Nat) : Int)) cd_387_2821 rfl (by omega) ?_
  refine r_arrS (i := i + 2) cd_387_2822 rfl rfl rfl (by omega) (by omega) ?_
  refine r_aldR cd_387_2823 rfl rfl ?_
  refine r_dI (k1 := 2) (k2 := 12) (kc' := kc + 2) (ks' := ks + 12) c1 cd_387_2824 rfl rfl rfl True.intro rfl rfl rfl rfl (mbk (by omega)) (mbs (by omega)) rfl ?_
  refine r_ist cd_387_2827 rfl rfl (L' := [aC 0, aR 0, aR 226, aR 236, aI ((i : Nat) : Int), aI cd, v6, v7, v8]) rfl ?_
  refine r_aldR cd_387_2829 rfl rfl ?_
  refine r_aldC cd_387_2830 rfl rfl ?_
  refine r_ild cd_387_2831 rfl rfl ?_
  refine r_con (v := 1) cd_387_2833 rfl (by decide) ?_
  refine r_add (v := ((i + 1 : Nat) : Int)) cd_387_2834 rfl (by omega) ?_
  refine r_arrS (i := i + 1) cd_387_2835 rfl rfl rfl (by rw [e1]; omega) (by rw [e1]; omega) ?_
  refine r_aldC cd_387_2836 rfl rfl ?_
  refine r_ild cd_387_2837 rfl rfl ?_
  refine r_con (v := 2) cd_387_2839 rfl (by decide) ?_
  refine r_add (v := ((i + 2 : Nat) : Int)) cd_387_2840 rfl (by omega) ?_
  refine r_arrS (i := i + 2) cd_387_2841 rfl rfl rfl (by rw [e1]; omega) (by rw [e1]; omega) ?_
  refine r_cI c2 cd_387_2842 rfl rfl rfl (rc0 m1 rfl) rfl rfl rfl ?_
  refine r_ist cd_387_2845 rfl rfl (L' := [aC 0, aR 0, aR 226, aR 236, aI ((i : Nat) : Int), aI cd, aI b, v7, v8]) rfl ?_
  refine r_aldR cd_387_2847 rfl rfl ?_
  refine r_cI j2.thr cd_387_2848 rfl rfl rfl (rc0 m2 rfl) rfl rfl rfl ?_
  refine r_ild cd_387_2851 rfl rfl ?_
  refine r_ic61e cd_387_2853 rfl (rfl) ?_
  refine r_ild cd_387_2858 rfl rfl ?_
  refine r_if52 cd_387_2860 rfl ⟨by omega, by omega⟩ (fun n2 => ?_) (fun n2 => ?_)
  · refine r_aldR cd_387_2863 rfl rfl ?_
    refine r_con (v := 0) cd_387_2864 rfl (by decide) ?_
    refine r_lld (i := 0) cd_387_2865 rfl o2 rfl (by omega) rfl ?_
    refine r_ild cd_387_2866 rfl rfl ?_
    refine r_i2l cd_387_2868 rfl ?_
    refine r_lcmp (v := 0) cd_387_2869 rfl (lg_eq (hcb n2)) ?_
    refine r_if51 cd_387_2870 rfl ⟨by omega, by omega⟩ (fun n3 => ?_) (fun n3 => ?_)
    · refine r_goto cd_387_2875 ?_
      exact k
    · exact absurd n3 (by decide)
  · refine r_goto cd_387_2875 ?_
    exact k
theorem la_53 (J : JJ h t g w ps kp T bu ek eo rl rp) (hi : i + 6 ≤ h.1.1) (hn : h.1.1 ≤ 3072) (hf : ∀ j, inR (h.1.2 j)) (hk : kc + 6 ≤ 601024) (hs : ks + 36 ≤ 7293034) : LW 2878 h i kc ks v5 v6 v7 v8 := by
  obtain ⟨h0, -⟩ := id J.1
  obtain ⟨h1, h2, cd, b, g1, w1, ps1, kp1, T1, bu1, ek1, eo1, rl1, rp1, c1, ⟨s1, m1⟩, c2, j2, hcb, e2, hc0, hc3, e1⟩ := l_53 J (h.1.2 (i + 1)) (hf _) (h.1.2 (i + 2)) (hf _)
  rw [← e1] at c2
  obtain ⟨s2, m2⟩ := j2.mo
  have o2 := j2.2.2.2
  refine ⟨h2, _, _, _, _, _, _, _, _, _, _, _, kc + 2, ks + 12, aI cd, aI b, v7, v8, j2, e2, by omega, by omega, fun res k => ?_⟩
  refine r_aldR cd_387_2878 rfl rfl ?_
  refine r_aldC cd_387_2879 rfl rfl ?_
  refine r_ild cd_387_2880 rfl rfl ?_
  refine r_con (v := 1) cd_387_2882 rfl (by decide) ?_
  refine r_add (v := ((i + 1 : Nat) : Int)) cd_387_2883 rfl (by omega) ?_
  refine r_arrS (i := i + 1) cd_387_2884 rfl rfl rfl (by omega) (by omega) ?_
  refine r_aldC cd_387_2885 rfl rfl ?_
  refine r_ild cd_387_2886 rfl rfl ?_
  refine r_con (v := 2) cd_387_2888 rfl (by decide) ?_
  refine r_add (v := ((i + 2 : Nat) : Int)) cd_387_2889 rfl (by omega) ?_
  refine r_arrS (i := i + 2) cd_387_2890 rfl rfl rfl (by omega) (by omega) ?_
  refine r_aldR cd_387_2891 rfl rfl ?_
  refine r_dI (k1 := 2) (k2 := 12) (kc' := kc + 2) (ks' := ks + 12) c1 cd_387_2892 rfl rfl rfl True.intro rfl rfl rfl rfl (mbk (by omega)) (mbs (by omega)) rfl ?_
  refine r_ist cd_387_2895 rfl rfl (L' := [aC 0, aR 0, aR 226, aR 236, aI ((i : Nat) : Int), aI cd, v6, v7, v8]) rfl ?_
  refine r_aldR cd_387_2897 rfl rfl ?_
  refine r_aldC cd_387_2898 rfl rfl ?_
  refine r_ild cd_387_2899 rfl rfl ?_
  refine r_con (v := 1) cd_387_2901 rfl (by decide) ?_
  refine r_add (v := ((i + 1 : Nat) : Int)) cd_387_2902 rfl (by omega) ?_
  refine r_arrS (i := i + 1) cd_387_2903 rfl rfl rfl (by rw [e1]; omega) (by rw [e1]; omega) ?_
  refine r_aldC cd_387_2904 rfl rfl ?_
  refine r_ild cd_387_2905 rfl rfl ?_
  refine r_con (v := 2) cd_387_2907 rfl (by decide) ?_
  refine r_add (v := ((i + 2 : Nat) : Int)) cd_387_2908 rfl (by omega) ?_
  refine r_arrS (i := i + 2) cd_387_2909 rfl rfl rfl (by rw [e1]; omega) (by rw [e1]; omega) ?_
  refine r_cI c2 cd_387_2910 rfl rfl rfl (rc0 m1 rfl) rfl rfl rfl ?_
  refine r_ist cd_387_2913 rfl rfl (L' := [aC 0, aR 0, aR 226, aR 236, aI ((i : Nat) : Int), aI cd, aI b, v7, v8]) rfl ?_
  refine r_aldR cd_387_2915 rfl rfl ?_
  refine r_cI j2.thr cd_387_2916 rfl rfl rfl (rc0 m2 rfl) rfl rfl rfl ?_
  refine r_ild cd_387_2919 rfl rfl ?_
  refine r_ic61e cd_387_2921 rfl (rfl) ?_
  refine r_ild cd_387_2926 rfl rfl ?_
  refine r_if52 cd_387_2928 rfl ⟨by omega, by omega⟩ (fun n2 => ?_) (fun n2 => ?_)
  · refine r_aldR cd_387_2931 rfl rfl ?_
    refine r_con (v := 0) cd_387_2932 rfl (by decide) ?_
    refine r_lld (i := 0) cd_387_2933 rfl o2 rfl (by omega) rfl ?_
    refine r_ild cd_387_2934 rfl rfl ?_
    refine r_i2l cd_387_2936 rfl ?_
    refine r_lcmp (v := 0) cd_387_2937 rfl (lg_eq (hcb n2)) ?_
    refine r_if51 cd_387_2938 rfl ⟨by omega, by omega⟩ (fun n3 => ?_) (fun n3 => ?_)
    · refine r_goto cd_387_2943 ?_
      exact k
    · exact absurd n3 (by decide)
  · refine r_goto cd_387_2943 ?_
    exact k
theorem la_54 (J : JJ h t g w ps kp T bu ek eo rl rp) (hi : i + 6 ≤ h.1.1) (hn : h.1.1 ≤ 3072) (hf : ∀ j, inR (h.1.2 j)) (hk : kc + 6 ≤ 601024) (hs : ks + 36 ≤ 7293034) : LW 2946 h i kc ks v5 v6 v7 v8 := by
  obtain ⟨h0, -⟩ := id J.1
  obtain ⟨h1, h2, cd, b, g1, w1, ps1, kp1, T1, bu1, ek1, eo1, rl1, rp1, c1, ⟨s1, m1⟩, c2, j2, hcb, e2, hc0, hc3, e1⟩ := l_54 J (h.1.2 (i + 1)) (hf _)
  rw [← e1] at c2
  obtain ⟨s2, m2⟩ := j2.mo
  have o2 := j2.2.2.2
  refine ⟨h2, _, _, _, _, _, _, _, _, _, _, _, kc + 1, ks + 6, aI cd, aI b, v7, v8, j2, e2, by omega, by omega, fun res k => ?_⟩
  refine r_aldR cd_387_2946 rfl rfl ?_
  refine r_aldC cd_387_2947 rfl rfl ?_
  refine r_ild cd_387_2948 rfl rfl ?_
  refine r_con (v := 1) cd_387_2950 rfl (by decide) ?_
  refine r_add (v := ((i + 1 : Nat) : Int)) cd_387_2951 rfl (by omega) ?_
  refine r_arrS (i := i + 1) cd_387_2952 rfl rfl rfl (by omega) (by omega) ?_
  refine r_aldR cd_387_2953 rfl rfl ?_
  refine r_dI (k1 := 1) (k2 := 6) (kc' := kc + 1) (ks' := ks + 6) c1 cd_387_2954 rfl rfl rfl True.intro rfl rfl rfl rfl (mbk (by omega)) (mbs (by omega)) rfl ?_
  refine r_ist cd_387_2957 rfl rfl (L' := [aC 0, aR 0, aR 226, aR 236, aI ((i : Nat) : Int), aI cd, v6, v7, v8]) rfl ?_
  refine r_aldR cd_387_2959 rfl rfl ?_
  refine r_aldC cd_387_2960 rfl rfl ?_
  refine r_ild cd_387_2961 rfl rfl ?_
  refine r_con (v := 1) cd_387_2963 rfl (by decide) ?_
  refine r_add (v := ((i + 1 : Nat) : Int)) cd_387_2964 rfl (by omega) ?_
  refine r_arrS (i := i + 1) cd_387_2965 rfl rfl rfl (by rw [e1]; omega) (by rw [e1]; omega) ?_
  refine r_cI c2 cd_387_2966 rfl rfl rfl (rc0 m1 rfl) rfl rfl rfl ?_
  refine r_ist cd_387_2969 rfl rfl (L' := [aC 0, aR 0, aR 226, aR 236, aI ((i : Nat) : Int), aI cd, aI b, v7, v8]) rfl ?_
  refine r_aldR cd_387_2971 rfl rfl ?_
  refine r_cI j2.thr cd_387_2972 rfl rfl rfl (rc0 m2 rfl) rfl rfl rfl ?_
  refine r_ild cd_387_2975 rfl rfl ?_
  refine r_ic61e cd_387_2977 rfl (rfl) ?_
  refine r_ild cd_387_2982 rfl rfl ?_
  refine r_if52 cd_387_2984 rfl ⟨by omega, by omega⟩ (fun n2 => ?_) (fun n2 => ?_)
  · refine r_aldR cd_387_2987 rfl rfl ?_
    refine r_con (v := 0) cd_387_2988 rfl (by decide) ?_
    refine r_lld (i := 0) cd_387_2989 rfl o2 rfl (by omega) rfl ?_
    refine r_ild cd_387_2990 rfl rfl ?_
    refine r_i2l cd_387_2992 rfl ?_
    refine r_lcmp (v := 0) cd_387_2993 rfl (lg_eq (hcb n2)) ?_
    refine r_if51 cd_387_2994 rfl ⟨by omega, by omega⟩ (fun n3 => ?_) (fun n3 => ?_)
    · refine r_goto cd_387_2999 ?_
      exact k
    · exact absurd n3 (by decide)
  · refine r_goto cd_387_2999 ?_
    exact k
theorem la_55 (J : JJ h t g w ps kp T bu ek eo rl rp) (hi : i + 6 ≤ h.1.1) (hn : h.1.1 ≤ 3072) (hf : ∀ j, inR (h.1.2 j)) (hk : kc + 6 ≤ 601024) (hs : ks + 36 ≤ 7293034) : LW 3002 h i kc ks v5 v6 v7 v8 := by
  obtain ⟨h0, -⟩ := id J.1
  obtain ⟨h1, h2, cd, b, g1, w1, ps1, kp1, T1, bu1, ek1, eo1, rl1, rp1, c1, ⟨s1, m1⟩, c2, j2, hcb, e2, hc0, hc3, e1⟩ := l_55 J (h.1.2 (i + 1)) (hf _)
  rw [← e1] at c2
  obtain ⟨s2, m2⟩ := j2.mo
  have o2 := j2.2.2.2
  refine ⟨h2, _, _, _, _, _, _, _, _, _, _, _, kc + 1, ks + 6, aI cd, aI b, v7, v8, j2, e2, by omega, by omega, fun res k => ?_⟩
  refine r_aldR cd_387_3002 rfl rfl ?_
  refine r_aldC cd_387_3003 rfl rfl ?_
  refine r_ild cd_387_3004 rfl rfl ?_
  refine r_con (v := 1) cd_387_3006 rfl (by decide) ?_
  refine r_add (v := ((i + 1 : Nat) : Int)) cd_387_3007 rfl (by omega) ?_
  refine r_arrS (i := i + 1) cd_387_3008 rfl rfl rfl (by omega) (by omega) ?_
  refine r_aldR cd_387_3009 rfl rfl ?_
  refine r_dI (k1 := 1) (k2 := 6) (kc' := kc + 1) (ks' := ks + 6) c1 cd_387_3010 rfl rfl rfl True.intro rfl rfl rfl rfl (mbk (by omega)) (mbs (by omega)) rfl ?_
  refine r_ist cd_387_3013 rfl rfl (L' := [aC 0, aR 0, aR 226, aR 236, aI ((i : Nat) : Int), aI cd, v6, v7, v8]) rfl ?_
  refine r_aldR cd_387_3015 rfl rfl ?_
  refine r_aldC cd_387_3016 rfl rfl ?_
  refine r_ild cd_387_3017 rfl rfl ?_
  refine r_con (v := 1) cd_387_3019 rfl (by decide) ?_
  refine r_add (v := ((i + 1 : Nat) : Int)) cd_387_3020 rfl (by omega) ?_
  refine r_arrS (i := i + 1) cd_387_3021 rfl rfl rfl (by rw [e1]; omega) (by rw [e1]; omega) ?_
  refine r_cI c2 cd_387_3022 rfl rfl rfl (rc0 m1 rfl) rfl rfl rfl ?_
  refine r_ist cd_387_3025 rfl rfl (L' := [aC 0, aR 0, aR 226, aR 236, aI ((i : Nat) : Int), aI cd, aI b, v7, v8]) rfl ?_
  refine r_aldR cd_387_3027 rfl rfl ?_
  refine r_cI j2.thr cd_387_3028 rfl rfl rfl (rc0 m2 rfl) rfl rfl rfl ?_
  refine r_ild cd_387_3031 rfl rfl ?_
  refine r_ic61e cd_387_3033 rfl (rfl) ?_
  refine r_ild cd_387_3038 rfl rfl ?_
  refine r_if52 cd_387_3040 rfl ⟨by omega, by omega⟩ (fun n2 => ?_) (fun n2 => ?_)
  · refine r_aldR cd_387_3043 rfl rfl ?_
    refine r_con (v := 0) cd_387_3044 rfl (by decide) ?_
    refine r_lld (i := 0) cd_387_3045 rfl o2 rfl (by omega) rfl ?_
    refine r_ild cd_387_3046 rfl rfl ?_
    refine r_i2l cd_387_3048 rfl ?_
    refine r_lcmp (v := 0) cd_387_3049 rfl (lg_eq (hcb n2)) ?_
    refine r_if51 cd_387_3050 rfl ⟨by omega, by omega⟩ (fun n3 => ?_) (fun n3 => ?_)
    · refine r_goto cd_387_3055 ?_
      exact k
    · exact absurd n3 (by decide)
  · refine r_goto cd_387_3055 ?_
    exact k
theorem la_56 (J : JJ h t g w ps kp T bu ek eo rl rp) (hi : i + 6 ≤ h.1.1) (hn : h.1.1 ≤ 3072) (hf : ∀ j, inR (h.1.2 j)) (hk : kc + 6 ≤ 601024) (hs : ks + 36 ≤ 7293034) : LW 3058 h i kc ks v5 v6 v7 v8 := by
  obtain ⟨h0, -⟩ := id J.1
  obtain ⟨h1, h2, v, t1, g1, w1, ps1, kp1, T1, bu1, ek1, eo1, rl1, rp1, c1, ⟨s1, m1⟩, c2, j2, e2, e1⟩ := l_56 J 
  obtain ⟨s2, m2⟩ := j2.mo
  have o2 := j2.2.2.2
  refine ⟨h2, _, _, _, _, _, _, _, _, _, _, _, kc, ks, v5, v6, v7, v8, j2, e2, by omega, by omega, fun res k => ?_⟩
  refine r_aldR cd_387_3058 rfl rfl ?_
  refine r_cI c1 cd_387_3059 rfl rfl rfl (rc0 h0 rfl) rfl rfl rfl ?_
  refine r_aldR cd_387_3062 rfl rfl ?_
  refine r_cI c2 cd_387_3063 rfl rfl rfl (rc0 m1 rfl) rfl rfl rfl ?_
  refine r_ic61e cd_387_3066 rfl (rfl) ?_
  exact k
theorem la_57 (J : JJ h t g w ps kp T bu ek eo rl rp) (hi : i + 6 ≤ h.1.1) (hn : h.1.1 ≤ 3072) (hf : ∀ j, inR (h.1.2 j)) (hk : kc + 6 ≤ 601024) (hs : ks + 36 ≤ 7293034) : LW 3071 h i kc ks v5 v6 v7 v8 := by
  obtain ⟨h0, -⟩ := id J.1
  obtain ⟨h1, h2, v, t1, g1, w1, ps1, kp1, T1, bu1, ek1, eo1, rl1, rp1, c1, ⟨s1, m1⟩, c2, j2, e2, e1⟩ := l_57 J 
  obtain ⟨s2, m2⟩ := j2.mo
  have o2 := j2.2.2.2
  refine ⟨h2, _, _, _, _, _, _, _, _, _, _, _, kc, ks, v5, v6, v7, v8, j2, e2, by omega, by omega, fun res k => ?_⟩
  refine r_aldR cd_387_3071 rfl rfl ?_
  refine r_cI c1 cd_387_3072 rfl rfl rfl (rc0 h0 rfl) rfl rfl rfl ?_
  refine r_aldR cd_387_3075 rfl rfl ?_
  refine r_cI c2 cd_387_3076 rfl rfl rfl (rc0 m1 rfl) rfl rfl rfl ?_
  refine r_ic61e cd_387_3079 rfl (rfl) ?_
  exact k
theorem la_58 (J : JJ h t g w ps kp T bu ek eo rl rp) (hi : i + 6 ≤ h.1.1) (hn : h.1.1 ≤ 3072) (hf : ∀ j, inR (h.1.2 j)) (hk : kc + 6 ≤ 601024) (hs : ks + 36 ≤ 7293034) : LW 3084 h i kc ks v5 v6 v7 v8 := by
  obtain ⟨h0, -⟩ := id J.1
  obtain ⟨h1, h2, x, t1, g1, w1, ps1, kp1, T1, bu1, ek1, eo1, rl1, rp1, c1, ⟨s1, m1⟩, c2, j2, e2⟩ := l_58 J
  obtain ⟨s2, m2⟩ := j2.mo
  have o2 := j2.2.2.2
  refine ⟨h2, _, _, _, _, _, _, _, _, _, _, _, kc, ks, aW (.double x), aU, aW (.double x), aU, j2, e2, by omega, by omega, fun res k => ?_⟩
  refine r_aldR cd_387_3084 rfl rfl ?_
  refine r_cI c1 cd_387_3085 rfl rfl rfl (rc0 h0 rfl) rfl rfl rfl ?_
  refine r_dst cd_387_3088 rfl rfl (L' := [aC 0, aR 0, aR 226, aR 236, aI ((i : Nat) : Int), aW (.double x), aU, v7, v8]) rfl ?_
  refine r_aldR cd_387_3090 rfl rfl ?_
  refine r_cI c2 cd_387_3091 rfl rfl rfl (rc0 m1 rfl) rfl rfl rfl ?_
  refine r_dst cd_387_3094 rfl rfl (L' := [aC 0, aR 0, aR 226, aR 236, aI ((i : Nat) : Int), aW (.double x), aU, aW (.double x), aU]) rfl ?_
  refine r_dld cd_387_3096 rfl rfl ?_
  refine r_dld cd_387_3098 rfl rfl ?_
  refine r_dcmp cd_387_3100 rfl ?_
  refine r_if51 cd_387_3101 rfl (w32_in _) (fun n1 => ?_) (fun n1 => ?_)
  · refine r_goto cd_387_3122 ?_
    exact k
  · refine r_dld cd_387_3104 rfl rfl ?_
    refine r_dld cd_387_3106 rfl rfl ?_
    refine r_dcmp cd_387_3108 rfl ?_
    refine r_if51 cd_387_3109 rfl (w32_in _) (fun n2 => ?_) (fun n2 => ?_)
    · exact absurd n2 n1
    · refine r_dld cd_387_3112 rfl rfl ?_
      refine r_dld cd_387_3114 rfl rfl ?_
      refine r_dcmp cd_387_3116 rfl ?_
      refine r_if52 cd_387_3117 rfl (w32_in _) (fun n3 => ?_) (fun n3 => ?_)
      · exact absurd n3 n1
      · refine r_goto cd_387_3122 ?_
        exact k
theorem la_59 (J : JJ h t g w ps kp T bu ek eo rl rp) (hi : i + 6 ≤ h.1.1) (hn : h.1.1 ≤ 3072) (hf : ∀ j, inR (h.1.2 j)) (hk : kc + 6 ≤ 601024) (hs : ks + 36 ≤ 7293034) : LW 3125 h i kc ks v5 v6 v7 v8 := by
  obtain ⟨h0, -⟩ := id J.1
  obtain ⟨h1, h2, x, t1, g1, w1, ps1, kp1, T1, bu1, ek1, eo1, rl1, rp1, c1, ⟨s1, m1⟩, c2, hnn, j2, e2⟩ := l_59 J
  obtain ⟨s2, m2⟩ := j2.mo
  have o2 := j2.2.2.2
  refine ⟨h2, _, _, _, _, _, _, _, _, _, _, _, kc, ks, aW (.double (FP.f2d x)), aU, aW (.double (FP.f2d x)), aU, j2, e2, by omega, by omega, fun res k => ?_⟩
  refine r_aldR cd_387_3125 rfl rfl ?_
  refine r_cI c1 cd_387_3126 rfl rfl rfl (rc0 h0 rfl) rfl rfl rfl ?_
  refine r_f2d cd_387_3129 rfl hnn ?_
  refine r_dst cd_387_3130 rfl rfl (L' := [aC 0, aR 0, aR 226, aR 236, aI ((i : Nat) : Int), aW (.double (FP.f2d x)), aU, v7, v8]) rfl ?_
  refine r_aldR cd_387_3132 rfl rfl ?_
  refine r_cI c2 cd_387_3133 rfl rfl rfl (rc0 m1 rfl) rfl rfl rfl ?_
  refine r_f2d cd_387_3136 rfl hnn ?_
  refine r_dst cd_387_3137 rfl rfl (L' := [aC 0, aR 0, aR 226, aR 236, aI ((i : Nat) : Int), aW (.double (FP.f2d x)), aU, aW (.double (FP.f2d x)), aU]) rfl ?_
  refine r_dld cd_387_3139 rfl rfl ?_
  refine r_dld cd_387_3141 rfl rfl ?_
  refine r_dcmp cd_387_3143 rfl ?_
  refine r_if51 cd_387_3144 rfl (w32_in _) (fun n1 => ?_) (fun n1 => ?_)
  · refine r_goto cd_387_3165 ?_
    exact k
  · refine r_dld cd_387_3147 rfl rfl ?_
    refine r_dld cd_387_3149 rfl rfl ?_
    refine r_dcmp cd_387_3151 rfl ?_
    refine r_if51 cd_387_3152 rfl (w32_in _) (fun n2 => ?_) (fun n2 => ?_)
    · exact absurd n2 n1
    · refine r_dld cd_387_3155 rfl rfl ?_
      refine r_dld cd_387_3157 rfl rfl ?_
      refine r_dcmp cd_387_3159 rfl ?_
      refine r_if52 cd_387_3160 rfl (w32_in _) (fun n3 => ?_) (fun n3 => ?_)
      · exact absurd n3 n1
      · refine r_goto cd_387_3165 ?_
        exact k
theorem la_60 (J : JJ h t g w ps kp T bu ek eo rl rp) (hi : i + 6 ≤ h.1.1) (hn : h.1.1 ≤ 3072) (hf : ∀ j, inR (h.1.2 j)) (hk : kc + 6 ≤ 601024) (hs : ks + 36 ≤ 7293034) : LW 3168 h i kc ks v5 v6 v7 v8 := by
  obtain ⟨h0, -⟩ := id J.1
  obtain ⟨h1, h2, v, t1, g1, w1, ps1, kp1, T1, bu1, ek1, eo1, rl1, rp1, c1, ⟨s1, m1⟩, c2, j2, e2, e1⟩ := l_60 J 
  obtain ⟨s2, m2⟩ := j2.mo
  have o2 := j2.2.2.2
  refine ⟨h2, _, _, _, _, _, _, _, _, _, _, _, kc, ks, v5, v6, v7, v8, j2, e2, by omega, by omega, fun res k => ?_⟩
  refine r_aldR cd_387_3168 rfl rfl ?_
  refine r_cI c1 cd_387_3169 rfl rfl rfl (rc0 h0 rfl) rfl rfl rfl ?_
  refine r_aldR cd_387_3172 rfl rfl ?_
  refine r_cI c2 cd_387_3173 rfl rfl rfl (rc0 m1 rfl) rfl rfl rfl ?_
  refine r_ic61e cd_387_3176 rfl (rfl) ?_
  exact k
theorem la_61 (J : JJ h t g w ps kp T bu ek eo rl rp) (hi : i + 6 ≤ h.1.1) (hn : h.1.1 ≤ 3072) (hf : ∀ j, inR (h.1.2 j)) (hk : kc + 6 ≤ 601024) (hs : ks + 36 ≤ 7293034) : LW 3181 h i kc ks v5 v6 v7 v8 := by
  obtain ⟨h0, -⟩ := id J.1
  obtain ⟨h1, h2, v, t1, g1, w1, ps1, kp1, T1, bu1, ek1, eo1, rl1, rp1, c1, ⟨s1, m1⟩, c2, j2, e2, e1⟩ := l_61 J 
  obtain ⟨s2, m2⟩ := j2.mo
  have o2 := j2.2.2.2
  refine ⟨h2, _, _, _, _, _, _, _, _, _, _, _, kc, ks, v5, v6, v7, v8, j2, e2, by omega, by omega, fun res k => ?_⟩
  refine r_aldR cd_387_3181 rfl rfl ?_
  refine r_cI c1 cd_387_3182 rfl rfl rfl (rc0 h0 rfl) rfl rfl rfl ?_
  refine r_aldR cd_387_3185 rfl rfl ?_
  refine r_cI c2 cd_387_3186 rfl rfl rfl (rc0 m1 rfl) rfl rfl rfl ?_
  refine r_ic61e cd_387_3189 rfl (rfl) ?_
  exact k
theorem la_62 (J : JJ h t g w ps kp T bu ek eo rl rp) (hi : i + 6 ≤ h.1.1) (hn : h.1.1 ≤ 3072) (hf : ∀ j, inR (h.1.2 j)) (hk : kc + 6 ≤ 601024) (hs : ks + 36 ≤ 7293034) : LW 3194 h i kc ks v5 v6 v7 v8 := by
  obtain ⟨h0, -⟩ := id J.1
  obtain ⟨h1, h2, v, t1, g1, w1, ps1, kp1, T1, bu1, ek1, eo1, rl1, rp1, c1, ⟨s1, m1⟩, c2, j2, e2, e1⟩ := l_62 J (h.1.2 (i + 1)) (hf _)
  rw [← e1] at c2
  obtain ⟨s2, m2⟩ := j2.mo
  have o2 := j2.2.2.2
  refine ⟨h2, _, _, _, _, _, _, _, _, _, _, _, kc, ks, v5, v6, v7, v8, j2, e2, by omega, by omega, fun res k => ?_⟩
  refine r_aldR cd_387_3194 rfl rfl ?_
  refine r_aldC cd_387_3195 rfl rfl ?_
  refine r_ild cd_387_3196 rfl rfl ?_
  refine r_con (v := 1) cd_387_3198 rfl (by decide) ?_
  refine r_add (v := ((i + 1 : Nat) : Int)) cd_387_3199 rfl (by omega) ?_
  refine r_arrS (i := i + 1) cd_387_3200 rfl rfl rfl (by omega) (by omega) ?_
  refine r_cI c1 cd_387_3201 rfl rfl rfl (rc0 h0 rfl) rfl rfl rfl ?_
  refine r_aldR cd_387_3204 rfl rfl ?_
  refine r_aldC cd_387_3205 rfl rfl ?_
  refine r_ild cd_387_3206 rfl rfl ?_
  refine r_con (v := 1) cd_387_3208 rfl (by decide) ?_
  refine r_add (v := ((i + 1 : Nat) : Int)) cd_387_3209 rfl (by omega) ?_
  refine r_arrS (i := i + 1) cd_387_3210 rfl rfl rfl (by rw [e1]; omega) (by rw [e1]; omega) ?_
  refine r_cI c2 cd_387_3211 rfl rfl rfl (rc0 m1 rfl) rfl rfl rfl ?_
  refine r_ic61e cd_387_3214 rfl (rfl) ?_
  exact k
theorem la_63 (J : JJ h t g w ps kp T bu ek eo rl rp) (hi : i + 6 ≤ h.1.1) (hn : h.1.1 ≤ 3072) (hf : ∀ j, inR (h.1.2 j)) (hk : kc + 6 ≤ 601024) (hs : ks + 36 ≤ 7293034) : LW 3219 h i kc ks v5 v6 v7 v8 := ⟨h, _, _, _, _, _, _, _, _, _, _, _, kc, ks, v5, v6, v7, v8, J, rfl, by omega, by omega, fun res k => k⟩
end LCODE
