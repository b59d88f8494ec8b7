/-! THE LAW: its cases that read (written by wip/whole/gen73.py) -/
section LREAD
variable {h : aH} {t : Int} {g : Nat → Int64} {w : Nat → Int} {ps : List (Nat → Int)} {kp : Option (Nat → Int)} {T : Nat} {bu : Nat → Int} {ek eo : Int} {rl : Nat} {rp : Nat → Int}
theorem x_110 (C : CR h w ps kp T bu ek eo rl rp) : Ct 1 110 [aR 0] h (.inl (some (aI (((ps.length : Nat) : Int)))), h) := by
  obtain ⟨h0, -, -, -, ⟨lt, hl, h55, -⟩, ⟨⟨dp, ex, h201⟩, -⟩, -⟩ := id C
  refine Ct.of [aR 0] rfl ?_
  refine r_aldR cd_110_0 rfl rfl ?_
  refine r_get cd_110_1 rfl h0 rfl ?_
  refine r_get cd_110_4 rfl h55 rfl ?_
  exact r_ret cd_110_7 True.intro (rfl)
theorem x_112 (C : CR h w ps kp T bu ek eo rl rp) : Ct 1 112 [aR 0] h (.inl (some (aI (ek))), h) := by
  obtain ⟨h0, -, -, -, ⟨lt, hl, h55, -⟩, ⟨⟨dp, ex, h201⟩, -⟩, -⟩ := id C
  refine Ct.of [aR 0] rfl ?_
  refine r_aldR cd_112_0 rfl rfl ?_
  refine r_get cd_112_1 rfl h0 rfl ?_
  refine r_get cd_112_4 rfl h201 rfl ?_
  exact r_ret cd_112_7 True.intro (rfl)
theorem x_113 (C : CR h w ps kp T bu ek eo rl rp) : Ct 1 113 [aR 0] h (.inl (some (aI (eo))), h) := by
  obtain ⟨h0, -, -, -, ⟨lt, hl, h55, -⟩, ⟨⟨dp, ex, h201⟩, -⟩, -⟩ := id C
  refine Ct.of [aR 0] rfl ?_
  refine r_aldR cd_113_0 rfl rfl ?_
  refine r_get cd_113_1 rfl h0 rfl ?_
  refine r_get cd_113_4 rfl h201 rfl ?_
  exact r_ret cd_113_7 True.intro (rfl)
theorem l_24 (J : JJ h t g w ps kp T bu ek eo rl rp) : AP 1 114 2 280 [] h := by
  obtain ⟨C, ⟨s, b0, as, P, kd, tx, nu, M, S⟩, W, O⟩ := id J
  have hI := W.1.1.1
  obtain ⟨h0, -⟩ := id C
  exact AP.ok C M S W O (x_114 C hI) (c_280 M.1 M.2.1)
theorem l_25 (J : JJ h t g w ps kp T bu ek eo rl rp) : AP 1 115 2 282 [] h := by
  obtain ⟨C, ⟨s, b0, as, P, kd, tx, nu, M, S⟩, W, O⟩ := id J
  have hI := W.1.1.1
  obtain ⟨h0, -⟩ := id C
  exact AP.ok C M S W O (x_115 C hI) (c_282 M.1 M.2.1)
theorem l_26 (J : JJ h t g w ps kp T bu ek eo rl rp) : AP 1 116 2 283 [] h := by
  obtain ⟨C, ⟨s, b0, as, P, kd, tx, nu, M, S⟩, W, O⟩ := id J
  have hI := W.1.1.1
  obtain ⟨h0, -⟩ := id C
  exact AP.ok C M S W O (x_116 C hI) (c_283 M.1 M.2.1)
theorem l_27 (J : JJ h t g w ps kp T bu ek eo rl rp) : AP 1 117 2 284 [] h := by
  obtain ⟨C, ⟨s, b0, as, P, kd, tx, nu, M, S⟩, W, O⟩ := id J
  have hI := W.1.1.1
  obtain ⟨h0, -⟩ := id C
  exact AP.ok C M S W O (x_117 C hI) (c_284 M.1 M.2.1)
theorem l_28 (J : JJ h t g w ps kp T bu ek eo rl rp) : AP 1 118 2 285 [] h := by
  obtain ⟨C, ⟨s, b0, as, P, kd, tx, nu, M, S⟩, W, O⟩ := id J
  have hI := W.1.1.1
  obtain ⟨h0, -⟩ := id C
  exact AP.ok C M S W O (x_118 C hI) (c_285 M.1 M.2.1)
theorem l_56 (J : JJ h t g w ps kp T bu ek eo rl rp) : AP 1 121 2 319 [] h := by
  obtain ⟨C, ⟨s, b0, as, P, kd, tx, nu, M, S⟩, W, O⟩ := id J
  have hI := W.1.1.1
  obtain ⟨h0, -⟩ := id C
  exact AP.ok C M S W O (x_121 C hI) (c_319 M.1 M.2.1)
theorem l_57 (J : JJ h t g w ps kp T bu ek eo rl rp) : AP 1 122 2 320 [] h := by
  obtain ⟨C, ⟨s, b0, as, P, kd, tx, nu, M, S⟩, W, O⟩ := id J
  have hI := W.1.1.1
  obtain ⟨h0, -⟩ := id C
  exact AP.ok C M S W O (x_122 C hI) (c_320 M.1 M.2.1)
theorem l_19 (J : JJ h t g w ps kp T bu ek eo rl rp) : AP 1 110 1 275 [] h := by
  obtain ⟨C, ⟨s, b0, as, P, kd, tx, nu, M, S⟩, W, O⟩ := id J
  have hI := W.1.1.1
  obtain ⟨h0, -⟩ := id C
  exact AP.ok C M S W O (x_110 C) ((c_275 M.1 M.2.1).eq (by rw [S.1]))
theorem l_22 (J : JJ h t g w ps kp T bu ek eo rl rp) : AP 1 112 1 278 [] h := by
  obtain ⟨C, ⟨s, b0, as, P, kd, tx, nu, M, S⟩, W, O⟩ := id J
  have hI := W.1.1.1
  obtain ⟨h0, -⟩ := id C
  exact AP.ok C M S W O (x_112 C) ((c_278 M.1 M.2.1).eq (by rw [S.2.2.2.1]))
theorem l_23 (J : JJ h t g w ps kp T bu ek eo rl rp) : AP 1 113 1 279 [] h := by
  obtain ⟨C, ⟨s, b0, as, P, kd, tx, nu, M, S⟩, W, O⟩ := id J
  have hI := W.1.1.1
  obtain ⟨h0, -⟩ := id C
  exact AP.ok C M S W O (x_113 C) ((c_279 M.1 M.2.1).eq (by rw [S.2.2.2.2.1]))
theorem l_40 (J : JJ h t g w ps kp T bu ek eo rl rp) : AP 3 119 2 298 [] h := by
  obtain ⟨C, ⟨s, b0, as, P, kd, tx, nu, M, S⟩, W, O⟩ := id J
  have hI := W.1.1.1
  obtain ⟨h0, -⟩ := id C
  exact AP.ok C M S W O (x_119 C hI) (c_298 M.1 M.2.1 hI)
theorem l_47 (J : JJ h t g w ps kp T bu ek eo rl rp) (x : Int) (hx : inR x) : AP 2 120 3 307 [aI x] h := by
  obtain ⟨C, ⟨s, b0, as, P, kd, tx, nu, M, S⟩, W, O⟩ := id J
  have hI := W.1.1.1
  obtain ⟨h0, -⟩ := id C
  exact AP.ok C M S W O (x_120 C hI x hx) (c_307 M.1 M.2.1 hI x hx)
theorem l_29 (J : JJ h t g w ps kp T bu ek eo rl rp) (x0 : Int) (hx0 : inR x0) : BP 4 348 3 286 [aI x0] h := by
  obtain ⟨C, ⟨s, b0, as, P, kd, tx, nu, M, S⟩, W, O⟩ := id J
  have hI := W.1.1.1
  obtain ⟨h0, -⟩ := id C
  cases g0 : isPl w x0 with
  | false => exact BP.bad C M S W O (c := 1) (u_348_0 x0 h0 (z_150_0 C hI x0 hx0 g0)) (by have q := c_286 M.1 M.2.1 hI x0 hx0; rw [g0] at q; exact q) (by decide) (by decide)
  | true =>
    obtain ⟨k0, rfl⟩ : ∃ k : Nat, x0 = ((k : Nat) : Int) := ⟨x0.toNat, by have := isPl_iff.mp g0; omega⟩
    exact BP.ok C M S W (w_348 _ h0 (x_150 C hI k0 g0) O) (by have q := c_286 (h := sw h 236 (lgC g (w (23 + k0)))) ((sw_ne (by decide)).trans M.1) ((sw_ne (by decide)).trans M.2.1) hI _ hx0; rw [g0] at q; exact q)
theorem l_30 (J : JJ h t g w ps kp T bu ek eo rl rp) (x0 : Int) (hx0 : inR x0) : BP 4 349 3 287 [aI x0] h := by
  obtain ⟨C, ⟨s, b0, as, P, kd, tx, nu, M, S⟩, W, O⟩ := id J
  have hI := W.1.1.1
  obtain ⟨h0, -⟩ := id C
  cases g0 : isPl w x0 with
  | false => exact BP.bad C M S W O (c := 1) (u_349_0 x0 h0 (z_151_0 C hI x0 hx0 g0)) (by have q := c_287 M.1 M.2.1 hI x0 hx0; rw [g0] at q; exact q) (by decide) (by decide)
  | true =>
    obtain ⟨k0, rfl⟩ : ∃ k : Nat, x0 = ((k : Nat) : Int) := ⟨x0.toNat, by have := isPl_iff.mp g0; omega⟩
    exact BP.ok C M S W (w_349 _ h0 (x_151 C hI k0 g0) O) (by have q := c_287 (h := sw h 236 (lgC g (w (53 + k0)))) ((sw_ne (by decide)).trans M.1) ((sw_ne (by decide)).trans M.2.1) hI _ hx0; rw [g0] at q; exact q)
theorem l_31 (J : JJ h t g w ps kp T bu ek eo rl rp) (x0 : Int) (hx0 : inR x0) : BP 4 350 2 288 [aI x0] h := by
  obtain ⟨C, ⟨s, b0, as, P, kd, tx, nu, M, S⟩, W, O⟩ := id J
  have hI := W.1.1.1
  obtain ⟨h0, -⟩ := id C
  cases g0 : inB x0 0 999 with
  | false => exact BP.bad C M S W O (c := 1) (u_350_1 x0 h0 (z_152_0 C hI x0 hx0 g0)) (by have q := c_288 M.1 M.2.1 hI x0 hx0; rw [g0] at q; exact q) (by decide) (by decide)
  | true =>
    exact BP.ok C M S W (w_350 x0 h0 (x_152 C hI x0 hx0 g0) O) (by have q := c_288 (h := sw h 236 (lgC g (gustI w x0))) ((sw_ne (by decide)).trans M.1) ((sw_ne (by decide)).trans M.2.1) hI x0 hx0; rw [g0] at q; exact q)
theorem l_32 (J : JJ h t g w ps kp T bu ek eo rl rp) (x0 : Int) (hx0 : inR x0) : BP 4 351 3 289 [aI x0] h := by
  obtain ⟨C, ⟨s, b0, as, P, kd, tx, nu, M, S⟩, W, O⟩ := id J
  have hI := W.1.1.1
  obtain ⟨h0, -⟩ := id C
  cases g0 : isPl w x0 with
  | false => exact BP.bad C M S W O (c := 1) (u_351_0 x0 h0 (z_153_0 C hI x0 hx0 g0)) (by have q := c_289 M.1 M.2.1 hI x0 hx0; rw [g0] at q; exact q) (by decide) (by decide)
  | true =>
    exact BP.ok C M S W (w_351 x0 h0 (x_153 C hI x0 hx0 g0) O) (by have q := c_289 (h := sw h 236 (lgC g (setF (fun p => lies w p x0) (nP w)))) ((sw_ne (by decide)).trans M.1) ((sw_ne (by decide)).trans M.2.1) hI x0 hx0; rw [g0] at q; exact q)
theorem l_33 (J : JJ h t g w ps kp T bu ek eo rl rp) (x0 : Int) (hx0 : inR x0) : BP 4 352 4 290 [aI x0] h := by
  obtain ⟨C, ⟨s, b0, as, P, kd, tx, nu, M, S⟩, W, O⟩ := id J
  have hI := W.1.1.1
  obtain ⟨h0, -⟩ := id C
  cases g0 : isBa w x0 with
  | false => exact BP.bad C M S W O (c := 1) (u_352_0 x0 h0 (z_154_0 C hI x0 hx0 g0)) (by have q := c_290 M.1 M.2.1 hI x0 hx0; rw [g0] at q; exact q) (by decide) (by decide)
  | true =>
    obtain ⟨k0, rfl⟩ : ∃ k : Nat, x0 = ((k : Nat) : Int) := ⟨x0.toNat, by have := isBa_iff.mp g0; omega⟩
    exact BP.ok C M S W (w_352 _ h0 (x_154 C hI k0 g0) O) (by have q := c_290 (h := sw h 236 (lgC g (bo w k0 0))) ((sw_ne (by decide)).trans M.1) ((sw_ne (by decide)).trans M.2.1) hI _ hx0; rw [g0] at q; exact q)
theorem l_34 (J : JJ h t g w ps kp T bu ek eo rl rp) (x0 : Int) (hx0 : inR x0) : BP 4 353 4 292 [aI x0] h := by
  obtain ⟨C, ⟨s, b0, as, P, kd, tx, nu, M, S⟩, W, O⟩ := id J
  have hI := W.1.1.1
  obtain ⟨h0, -⟩ := id C
  cases g0 : isBa w x0 with
  | false => exact BP.bad C M S W O (c := 1) (u_353_0 x0 h0 (z_155_0 C hI x0 hx0 g0)) (by have q := c_292 M.1 M.2.1 hI x0 hx0; rw [g0] at q; exact q) (by decide) (by decide)
  | true =>
    obtain ⟨k0, rfl⟩ : ∃ k : Nat, x0 = ((k : Nat) : Int) := ⟨x0.toNat, by have := isBa_iff.mp g0; omega⟩
    exact BP.ok C M S W (w_353 _ h0 (x_155 C hI k0 g0) O) (by have q := c_292 (h := sw h 236 (lgC g (bo w k0 1))) ((sw_ne (by decide)).trans M.1) ((sw_ne (by decide)).trans M.2.1) hI _ hx0; rw [g0] at q; exact q)
theorem l_35 (J : JJ h t g w ps kp T bu ek eo rl rp) (x0 : Int) (hx0 : inR x0) : BP 4 354 4 293 [aI x0] h := by
  obtain ⟨C, ⟨s, b0, as, P, kd, tx, nu, M, S⟩, W, O⟩ := id J
  have hI := W.1.1.1
  obtain ⟨h0, -⟩ := id C
  cases g0 : isBa w x0 with
  | false => exact BP.bad C M S W O (c := 1) (u_354_0 x0 h0 (z_156_0 C hI x0 hx0 g0)) (by have q := c_293 M.1 M.2.1 hI x0 hx0; rw [g0] at q; exact q) (by decide) (by decide)
  | true =>
    obtain ⟨k0, rfl⟩ : ∃ k : Nat, x0 = ((k : Nat) : Int) := ⟨x0.toNat, by have := isBa_iff.mp g0; omega⟩
    exact BP.ok C M S W (w_354 _ h0 (x_156 C hI k0 g0) O) (by have q := c_293 (h := sw h 236 (lgC g (bo w k0 2))) ((sw_ne (by decide)).trans M.1) ((sw_ne (by decide)).trans M.2.1) hI _ hx0; rw [g0] at q; exact q)
theorem l_36 (J : JJ h t g w ps kp T bu ek eo rl rp) (x0 : Int) (hx0 : inR x0) : BP 4 355 4 294 [aI x0] h := by
  obtain ⟨C, ⟨s, b0, as, P, kd, tx, nu, M, S⟩, W, O⟩ := id J
  have hI := W.1.1.1
  obtain ⟨h0, -⟩ := id C
  cases g0 : isBa w x0 with
  | false => exact BP.bad C M S W O (c := 1) (u_355_0 x0 h0 (z_157_0 C hI x0 hx0 g0)) (by have q := c_294 M.1 M.2.1 hI x0 hx0; rw [g0] at q; exact q) (by decide) (by decide)
  | true =>
    obtain ⟨k0, rfl⟩ : ∃ k : Nat, x0 = ((k : Nat) : Int) := ⟨x0.toNat, by have := isBa_iff.mp g0; omega⟩
    exact BP.ok C M S W (w_355 _ h0 (x_157 C hI k0 g0) O) (by have q := c_294 (h := sw h 236 (lgC g (loadOf w k0))) ((sw_ne (by decide)).trans M.1) ((sw_ne (by decide)).trans M.2.1) hI _ hx0; rw [g0] at q; exact q)
theorem l_37 (J : JJ h t g w ps kp T bu ek eo rl rp) (x0 : Int) (hx0 : inR x0) : BP 4 356 6 295 [aI x0] h := by
  obtain ⟨C, ⟨s, b0, as, P, kd, tx, nu, M, S⟩, W, O⟩ := id J
  have hI := W.1.1.1
  obtain ⟨h0, -⟩ := id C
  cases g0 : isBa w x0 with
  | false => exact BP.bad C M S W O (c := 1) (u_356_0 x0 h0 (z_158_0 C hI x0 hx0 g0)) (by have q := c_295 M.1 M.2.1 hI x0 hx0; rw [g0] at q; exact q) (by decide) (by decide)
  | true =>
    obtain ⟨k0, rfl⟩ : ∃ k : Nat, x0 = ((k : Nat) : Int) := ⟨x0.toNat, by have := isBa_iff.mp g0; omega⟩
    exact BP.ok C M S W (w_356 _ h0 (x_158 C hI k0 g0) O) (by have q := c_295 (h := sw h 236 (lgC g (hOf w k0))) ((sw_ne (by decide)).trans M.1) ((sw_ne (by decide)).trans M.2.1) hI _ hx0; rw [g0] at q; exact q)
theorem l_38 (J : JJ h t g w ps kp T bu ek eo rl rp) (x0 : Int) (hx0 : inR x0) : BP 4 357 4 296 [aI x0] h := by
  obtain ⟨C, ⟨s, b0, as, P, kd, tx, nu, M, S⟩, W, O⟩ := id J
  have hI := W.1.1.1
  obtain ⟨h0, -⟩ := id C
  cases g0 : isBa w x0 with
  | false => exact BP.bad C M S W O (c := 1) (u_357_0 x0 h0 (z_159_0 C hI x0 hx0 g0)) (by have q := c_296 M.1 M.2.1 hI x0 hx0; rw [g0] at q; exact q) (by decide) (by decide)
  | true =>
    obtain ⟨k0, rfl⟩ : ∃ k : Nat, x0 = ((k : Nat) : Int) := ⟨x0.toNat, by have := isBa_iff.mp g0; omega⟩
    exact BP.ok C M S W (w_357 _ h0 (x_159 C hI k0 g0) O) (by have q := c_296 (h := sw h 236 (lgC g (bo w k0 3))) ((sw_ne (by decide)).trans M.1) ((sw_ne (by decide)).trans M.2.1) hI _ hx0; rw [g0] at q; exact q)
theorem l_39 (J : JJ h t g w ps kp T bu ek eo rl rp) (x0 : Int) (hx0 : inR x0) : BP 4 358 3 297 [aI x0] h := by
  obtain ⟨C, ⟨s, b0, as, P, kd, tx, nu, M, S⟩, W, O⟩ := id J
  have hI := W.1.1.1
  obtain ⟨h0, -⟩ := id C
  cases g0 : isBa w x0 with
  | false => exact BP.bad C M S W O (c := 1) (u_358_0 x0 h0 (z_160_0 C hI x0 hx0 g0)) (by have q := c_297 M.1 M.2.1 hI x0 hx0; rw [g0] at q; exact q) (by decide) (by decide)
  | true =>
    obtain ⟨k0, rfl⟩ : ∃ k : Nat, x0 = ((k : Nat) : Int) := ⟨x0.toNat, by have := isBa_iff.mp g0; omega⟩
    exact BP.ok C M S W (w_358 _ h0 (x_160 C hI k0 g0) O) (by have q := c_297 (h := sw h 236 (lgC g (setF (fun p => tied w p k0) (nP w)))) ((sw_ne (by decide)).trans M.1) ((sw_ne (by decide)).trans M.2.1) hI _ hx0; rw [g0] at q; exact q)
theorem l_41 (J : JJ h t g w ps kp T bu ek eo rl rp) (x0 : Int) (hx0 : inR x0) : BP 4 359 4 299 [aI x0] h := by
  obtain ⟨C, ⟨s, b0, as, P, kd, tx, nu, M, S⟩, W, O⟩ := id J
  have hI := W.1.1.1
  obtain ⟨h0, -⟩ := id C
  cases g0 : isPa w x0 with
  | false => exact BP.bad C M S W O (c := 1) (u_359_0 x0 h0 (z_161_0 C hI x0 hx0 g0)) (by have q := c_299 M.1 M.2.1 hI x0 hx0; rw [g0] at q; exact q) (by decide) (by decide)
  | true =>
    obtain ⟨k0, rfl⟩ : ∃ k : Nat, x0 = ((k : Nat) : Int) := ⟨x0.toNat, by have := isPa_iff.mp g0; omega⟩
    exact BP.ok C M S W (w_359 _ h0 (x_161 C hI k0 g0) O) (by have q := c_299 (h := sw h 236 (lgC g (pa w k0 0))) ((sw_ne (by decide)).trans M.1) ((sw_ne (by decide)).trans M.2.1) hI _ hx0; rw [g0] at q; exact q)
theorem l_42 (J : JJ h t g w ps kp T bu ek eo rl rp) (x0 : Int) (hx0 : inR x0) : BP 4 360 4 301 [aI x0] h := by
  obtain ⟨C, ⟨s, b0, as, P, kd, tx, nu, M, S⟩, W, O⟩ := id J
  have hI := W.1.1.1
  obtain ⟨h0, -⟩ := id C
  cases g0 : isPa w x0 with
  | false => exact BP.bad C M S W O (c := 1) (u_360_0 x0 h0 (z_162_0 C hI x0 hx0 g0)) (by have q := c_301 M.1 M.2.1 hI x0 hx0; rw [g0] at q; exact q) (by decide) (by decide)
  | true =>
    obtain ⟨k0, rfl⟩ : ∃ k : Nat, x0 = ((k : Nat) : Int) := ⟨x0.toNat, by have := isPa_iff.mp g0; omega⟩
    exact BP.ok C M S W (w_360 _ h0 (x_162 C hI k0 g0) O) (by have q := c_301 (h := sw h 236 (lgC g (pa w k0 2))) ((sw_ne (by decide)).trans M.1) ((sw_ne (by decide)).trans M.2.1) hI _ hx0; rw [g0] at q; exact q)
theorem l_43 (J : JJ h t g w ps kp T bu ek eo rl rp) (x0 : Int) (hx0 : inR x0) : BP 4 361 4 302 [aI x0] h := by
  obtain ⟨C, ⟨s, b0, as, P, kd, tx, nu, M, S⟩, W, O⟩ := id J
  have hI := W.1.1.1
  obtain ⟨h0, -⟩ := id C
  cases g0 : isPa w x0 with
  | false => exact BP.bad C M S W O (c := 1) (u_361_0 x0 h0 (z_163_0 C hI x0 hx0 g0)) (by have q := c_302 M.1 M.2.1 hI x0 hx0; rw [g0] at q; exact q) (by decide) (by decide)
  | true =>
    obtain ⟨k0, rfl⟩ : ∃ k : Nat, x0 = ((k : Nat) : Int) := ⟨x0.toNat, by have := isPa_iff.mp g0; omega⟩
    exact BP.ok C M S W (w_361 _ h0 (x_163 C hI k0 g0) O) (by have q := c_302 (h := sw h 236 (lgC g (pa w k0 4))) ((sw_ne (by decide)).trans M.1) ((sw_ne (by decide)).trans M.2.1) hI _ hx0; rw [g0] at q; exact q)
theorem l_44 (J : JJ h t g w ps kp T bu ek eo rl rp) (x0 : Int) (hx0 : inR x0) : BP 4 362 3 303 [aI x0] h := by
  obtain ⟨C, ⟨s, b0, as, P, kd, tx, nu, M, S⟩, W, O⟩ := id J
  have hI := W.1.1.1
  obtain ⟨h0, -⟩ := id C
  cases g0 : isPa w x0 with
  | false => exact BP.bad C M S W O (c := 1) (u_362_0 x0 h0 (z_164_0 C hI x0 hx0 g0)) (by have q := c_303 M.1 M.2.1 hI x0 hx0; rw [g0] at q; exact q) (by decide) (by decide)
  | true =>
    obtain ⟨k0, rfl⟩ : ∃ k : Nat, x0 = ((k : Nat) : Int) := ⟨x0.toNat, by have := isPa_iff.mp g0; omega⟩
    exact BP.ok C M S W (w_362 _ h0 (x_164 C hI k0 g0) O) (by have q := c_303 (h := sw h 236 (lgC g (carr w k0))) ((sw_ne (by decide)).trans M.1) ((sw_ne (by decide)).trans M.2.1) hI _ hx0; rw [g0] at q; exact q)
theorem l_45 (J : JJ h t g w ps kp T bu ek eo rl rp) (x0 : Int) (hx0 : inR x0) : BP 4 363 3 304 [aI x0] h := by
  obtain ⟨C, ⟨s, b0, as, P, kd, tx, nu, M, S⟩, W, O⟩ := id J
  have hI := W.1.1.1
  obtain ⟨h0, -⟩ := id C
  cases g0 : isPa w x0 with
  | false => exact BP.bad C M S W O (c := 1) (u_363_0 x0 h0 (z_165_0 C hI x0 hx0 g0)) (by have q := c_304 M.1 M.2.1 hI x0 hx0; rw [g0] at q; exact q) (by decide) (by decide)
  | true =>
    obtain ⟨k0, rfl⟩ : ∃ k : Nat, x0 = ((k : Nat) : Int) := ⟨x0.toNat, by have := isPa_iff.mp g0; omega⟩
    exact BP.ok C M S W (w_363 _ h0 (x_165 C hI k0 g0) O) (by have q := c_304 (h := sw h 236 (lgC g (plOf w k0))) ((sw_ne (by decide)).trans M.1) ((sw_ne (by decide)).trans M.2.1) hI _ hx0; rw [g0] at q; exact q)
theorem l_46 (J : JJ h t g w ps kp T bu ek eo rl rp) (x0 : Int) (hx0 : inR x0) : BP 4 364 3 306 [aI x0] h := by
  obtain ⟨C, ⟨s, b0, as, P, kd, tx, nu, M, S⟩, W, O⟩ := id J
  have hI := W.1.1.1
  obtain ⟨h0, -⟩ := id C
  cases g0 : isPa w x0 with
  | false => exact BP.bad C M S W O (c := 1) (u_364_0 x0 h0 (z_166_0 C hI x0 hx0 g0)) (by have q := c_306 M.1 M.2.1 hI x0 hx0; rw [g0] at q; exact q) (by decide) (by decide)
  | true =>
    obtain ⟨k0, rfl⟩ : ∃ k : Nat, x0 = ((k : Nat) : Int) := ⟨x0.toNat, by have := isPa_iff.mp g0; omega⟩
    exact BP.ok C M S W (w_364 _ h0 (x_166 C hI k0 g0) O) (by have q := c_306 (h := sw h 236 (lgC g (fareP w k0))) ((sw_ne (by decide)).trans M.1) ((sw_ne (by decide)).trans M.2.1) hI _ hx0; rw [g0] at q; exact q)
theorem l_49 (J : JJ h t g w ps kp T bu ek eo rl rp) (x0 : Int) (hx0 : inR x0) : BP 5 366 7 309 [aI x0] h := by
  obtain ⟨C, ⟨s, b0, as, P, kd, tx, nu, M, S⟩, W, O⟩ := id J
  have hI := W.1.1.1
  obtain ⟨h0, -⟩ := id C
  cases g0 : isBa w x0 with
  | false => exact BP.bad C M S W O (c := 1) (u_366_0 x0 h0 (z_168_0 C hI x0 hx0 g0)) (by have q := c_309 M.1 M.2.1 hI x0 hx0; rw [g0] at q; exact q) (by decide) (by decide)
  | true =>
    obtain ⟨k0, rfl⟩ : ∃ k : Nat, x0 = ((k : Nat) : Int) := ⟨x0.toNat, by have := isBa_iff.mp g0; omega⟩
    exact BP.ok C M S W (w_366 _ h0 (x_168 C hI k0 g0) O) (by have q := c_309 (h := sw h 236 (lgC g (whyL w k0))) ((sw_ne (by decide)).trans M.1) ((sw_ne (by decide)).trans M.2.1) hI _ hx0; rw [g0] at q; exact q)
theorem l_48 (J : JJ h t g w ps kp T bu ek eo rl rp) (x0 : Int) (hx0 : inR x0) (x1 : Int) (hx1 : inR x1) : BP 5 365 6 308 [aI x0, aI x1] h := by
  obtain ⟨C, ⟨s, b0, as, P, kd, tx, nu, M, S⟩, W, O⟩ := id J
  have hI := W.1.1.1
  obtain ⟨h0, -⟩ := id C
  cases g0 : isPa w x0 with
  | false => exact BP.bad C M S W O (c := 1) (u_365_0 x0 x1 h0 (z_167_0 C hI x0 hx0 x1 hx1 g0)) (by have q := c_308 M.1 M.2.1 hI x0 hx0 x1 hx1; rw [g0] at q; exact q) (by decide) (by decide)
  | true =>
    cases g1 : isBa w x1 with
    | false => exact BP.bad C M S W O (c := 1) (u_365_0 x0 x1 h0 (z_167_1 C hI x0 hx0 x1 hx1 g0 g1)) (by have q := c_308 M.1 M.2.1 hI x0 hx0 x1 hx1; rw [g0, g1] at q; exact q) (by decide) (by decide)
    | true =>
      obtain ⟨k0, rfl⟩ : ∃ k : Nat, x0 = ((k : Nat) : Int) := ⟨x0.toNat, by have := isPa_iff.mp g0; omega⟩
      obtain ⟨k1, rfl⟩ : ∃ k : Nat, x1 = ((k : Nat) : Int) := ⟨x1.toNat, by have := isBa_iff.mp g1; omega⟩
      exact BP.ok C M S W (w_365 _ _ h0 (x_167 C hI (fun b hb => (W.1.1.2.2 b hb).2) k0 k1 g0 g1) O) (by have q := c_308 (h := sw h 236 (lgC g (whyT w k0 k1))) ((sw_ne (by decide)).trans M.1) ((sw_ne (by decide)).trans M.2.1) hI _ hx0 _ hx1; rw [g0, g1] at q; exact q)
theorem l_51 (J : JJ h t g w ps kp T bu ek eo rl rp) (x0 : Int) (hx0 : inR x0) : BP 6 368 6 311 [aI x0] h := by
  obtain ⟨C, ⟨s, b0, as, P, kd, tx, nu, M, S⟩, W, O⟩ := id J
  have hI := W.1.1.1
  obtain ⟨h0, -⟩ := id C
  cases g0 : isPa w x0 with
  | false => exact BP.bad C M S W O (c := 1) (u_368_0 x0 h0 (z_170_0 C hI x0 hx0 g0)) (by have q := c_311 M.1 M.2.1 hI x0 hx0; rw [g0] at q; exact q) (by decide) (by decide)
  | true =>
    obtain ⟨k0, rfl⟩ : ∃ k : Nat, x0 = ((k : Nat) : Int) := ⟨x0.toNat, by have := isPa_iff.mp g0; omega⟩
    exact BP.ok C M S W (w_368 _ h0 (x_170 C hI (fun b hb => (W.1.1.2.2 b hb).2) k0 g0) O) (by have q := c_311 (h := sw h 236 (lgC g (bstB w k0))) ((sw_ne (by decide)).trans M.1) ((sw_ne (by decide)).trans M.2.1) hI _ hx0; rw [g0] at q; exact q)
theorem l_50 (J : JJ h t g w ps kp T bu ek eo rl rp) (x0 : Int) (hx0 : inR x0) : BP 4 367 5 310 [aI x0] h := by
  obtain ⟨C, ⟨s, b0, as, P, kd, tx, nu, M, S⟩, W, O⟩ := id J
  have hI := W.1.1.1
  obtain ⟨h0, -⟩ := id C
  cases g0 : isBa w x0 with
  | false => exact BP.bad C M S W O (c := 1) (u_367_0 x0 h0 (z_169_0 C hI x0 hx0 g0)) (by have q := c_310 M.1 M.2.1 hI x0 hx0; rw [g0] at q; exact q) (by decide) (by decide)
  | true =>
    obtain ⟨k0, rfl⟩ : ∃ k : Nat, x0 = ((k : Nat) : Int) := ⟨x0.toNat, by have := isBa_iff.mp g0; omega⟩
    exact BP.ok C M S W (w_367 _ h0 (x_169 C hI W.1.1.2.2 k0 g0) O) (by have q := c_310 (h := sw h 236 (lgC g (heav w k0))) ((sw_ne (by decide)).trans M.1) ((sw_ne (by decide)).trans M.2.1) hI _ hx0; rw [g0] at q; exact q)
end LREAD
