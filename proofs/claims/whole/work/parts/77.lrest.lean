/-! THE LAW: predictions, accounts, the report (written by wip/whole/gen77.py) -/
theorem markI_b {w : Nat → Int} (hI : Inv0 w) (x : Nat) : 0 ≤ markI w x ∧ markI w x < 128 := by
  have h := baAt_c (x := ((x : Nat) : Int)) hI
  unfold markI
  repeat' split
  all_goals omega
theorem itF_up {f : Nat → Int} : ∀ {m i : Nat} {d : Nat → Int} {j : Nat}, itF (fun k d => va_up d k (f k)) i m d j = if i ≤ j ∧ j < i + m then f j else d j
  | 0, i, d, j => by rw [if_neg (by omega)]; rfl
  | m + 1, i, d, j => by
    rw [itF_last]
    by_cases e : j = i + m
    · rw [e, if_pos (by omega)]; exact vu_at _ _ _
    · show va_up _ (i + m) (f (i + m)) j = _
      rw [vu_ne e, itF_up]
      by_cases c : i ≤ j ∧ j < i + m
      · rw [if_pos c, if_pos (by omega)]
      · rw [if_neg c, if_neg (by omega)]
theorem ch_m {x : Int} (h1 : 0 ≤ x) (h2 : x < 128) : chI (chI x) = x := by rw [(ch_and h1 h2).2, (ch_and h1 h2).2]
/-- what the class's report is written to be -/
def wrB (w : Nat → Int) (i m : Nat) (d : Nat → Int) : Nat → Int := itF (fun k d => va_up d k (byI (markI w k))) i m d
theorem wr_rp {w : Nat → Int} (hI : Inv0 w) {m : Nat} {d d' : Nat → Int} {k : Nat} (hk : k < m) : wrB w 0 m d k = rpF w 0 m d' k ∧ 0 ≤ rpF w 0 m d' k ∧ rpF w 0 m d' k < 128 := by
  have h := markI_b hI k
  have e1 : wrB w 0 m d k = markI w k := by
    unfold wrB
    rw [itF_up (f := fun k => byI (markI w k)), if_pos (by omega)]
    exact by_id h.1 h.2
  have e2 : rpF w 0 m d' k = markI w k := by
    unfold rpF
    rw [itF_up (f := fun k => chI (chI (markI w k))), if_pos (by omega)]
    exact ch_m h.1 h.2
  rw [e1, e2]
  exact ⟨rfl, h⟩
section LREST
variable {h : aH} {t : Int} {g : Nat → Int64} {w : Nat → Int} {ps : List (Nat → Int)} {kp : Option (Nat → Int)} {T : Nat} {bu : Nat → Int} {ek eo : Int} {rl : Nat} {rp : Nat → Int} {s b0 as P kd tx nu : Nat → Int} {Kw yw Km ym : Nat} {ar : List aV}
theorem JJ.sa (C : CR h w ps kp T bu ek eo rl rp) (M : MC h s w b0 as P kd bu tx rp nu) (S : MS s P kd tx t ps kp T ek eo rl) (W : WF w ps kp T bu rl rp) {h1 h2 : aH} (C' : CR h1 w ps kp T bu ek eo rl rp) (F : Fc h h1) {v : Int} (e1 : h2.2.2 226 = .inr (8, Mo (va_up s 15 0))) (e2 : ∃ as', h2.2.2 229 = .inl (0, 211, .inl as')) (e3 : h2.2.2 236 = lgC g v) (e4 : ∀ a, ¬ a = 226 → ¬ a = 229 → ¬ a = 236 → h2.2.2 a = h1.2.2 a) : JJ h2 0 (va_up g 0 (i32 v).toInt64) w ps kp T bu ek eo rl rp := by
  obtain ⟨as', e2⟩ := e2
  obtain ⟨-, m2, m3, m4, m5, m6, m7, m8, m9, m10⟩ := M
  have fm : ∀ a, 226 ≤ a → ¬ a = 226 → ¬ a = 229 → ¬ a = 236 → h2.2.2 a = h.2.2 a := fun a g0 g1 g2 g3 => (e4 a g1 g2 g3).trans (F.1 a g0)
  exact ⟨C'.mv fun a ha => e4 a (by omega) (by omega) (by omega), ⟨va_up s 15 0, b0, as', P, kd, tx, nu, ⟨e1, (fm 227 (by decide) (by decide) (by decide) (by decide)).trans m2, (fm 228 (by decide) (by decide) (by decide) (by decide)).trans m3, e2, (fm 230 (by decide) (by decide) (by decide) (by decide)).trans m5, (fm 231 (by decide) (by decide) (by decide) (by decide)).trans m6, (fm 232 (by decide) (by decide) (by decide) (by decide)).trans m7, (fm 233 (by decide) (by decide) (by decide) (by decide)).trans m8, (fm 234 (by decide) (by decide) (by decide) (by decide)).trans m9, (fm 235 (by decide) (by decide) (by decide) (by decide)).trans m10⟩, S.t⟩, W, e3⟩
theorem BP.fo (C : CR h w ps kp T bu ek eo rl rp) (M : MC h s w b0 as P kd bu tx rp nu) (S : MS s P kd tx t ps kp T ek eo rl) (W : WF w ps kp T bu rl rp) {h1 : aH} {v : Int} (C' : CR h1 w ps kp T bu ek eo rl rp) (F : Fc h h1) (hw : Ct Kw yw (aR 0 :: (ar ++ [aR 236])) h (.inl (some (aI 0)), sw h1 236 (lgC g v))) {as' : Nat → Int} (hr : Ct Km ym (aR 226 :: ar) (sw h1 236 (lgC g v)) (.inl (some (aI v)), sw (sw (sw h1 236 (lgC g v)) 226 (.inr (8, Mo (va_up s 15 0)))) 229 (.inl (0, 211, .inl as')))) : BP Kw yw Km ym ar h :=
  ⟨_, _, 0, v, va_up g 0 (i32 v).toInt64, w, ps, kp, T, bu, ek, eo, rl, rp, hw, ⟨s, (sw_ne (by decide)).trans ((F.1 226 (by decide)).trans M.1)⟩, hr, JJ.sa C M S W C' F ((sw_ne (by decide)).trans (sw_at _ _ _)) ⟨as', sw_at _ _ _⟩ ((sw_ne (by decide)).trans ((sw_ne (by decide)).trans (sw_at _ _ _))) (fun a g1 g2 g3 => (sw_ne g2).trans ((sw_ne g1).trans (sw_ne g3))), fun _ => vu_at _ _ _, F.2.1, by decide, by decide, F.2.1⟩
theorem BP.fp (C : CR h w ps kp T bu ek eo rl rp) (M : MC h s w b0 as P kd bu tx rp nu) (S : MS s P kd tx t ps kp T ek eo rl) (W : WF w ps kp T bu rl rp) {h1 : aH} {v : Int} (C' : CR h1 w ps kp T bu ek eo rl rp) (F : Fc h h1) (hw : Ct Kw yw (aR 0 :: (ar ++ [aR 236])) h (.inl (some (aI 0)), sw h1 236 (lgC g v))) (hr : Ct Km ym (aR 226 :: ar) (sw h1 236 (lgC g v)) (.inl (some (aI v)), sw (sw h1 236 (lgC g v)) 226 (.inr (8, Mo (va_up s 15 0))))) : BP Kw yw Km ym ar h :=
  ⟨_, _, 0, v, va_up g 0 (i32 v).toInt64, w, ps, kp, T, bu, ek, eo, rl, rp, hw, ⟨s, (sw_ne (by decide)).trans ((F.1 226 (by decide)).trans M.1)⟩, hr, JJ.sa C M S W C' F (sw_at _ _ _) ⟨as, (sw_ne (by decide)).trans ((sw_ne (by decide)).trans ((F.1 229 (by decide)).trans M.2.2.2.1))⟩ ((sw_ne (by decide)).trans (sw_at _ _ _)) (fun a g1 g2 g3 => (sw_ne g1).trans (sw_ne g3)), fun _ => vu_at _ _ _, F.2.1, by decide, by decide, F.2.1⟩
theorem l_52 (J : JJ h t g w ps kp T bu ek eo rl rp) (y0 : Int) (hy0 : inR y0) (y1 : Int) (hy1 : inR y1) : BP 7 369 9 312 [aI y0, aI y1] h := by
  obtain ⟨C, ⟨s, b0, as, P, kd, tx, nu, M, S⟩, W, O⟩ := J
  have hI := W.1.1.1
  obtain ⟨h0, hR, -⟩ := id C
  have hbn := hI.bNe
  have h99 := W.1.1.2.1
  cases g0 : isBa w y0 with
  | false =>
    have e : tAft w y0 y1 = 1 := by simp [tAft, g0]
    exact BP.bad C M S W O (c := 1) (u_369_0 y0 y1 h0 (z_171_0 C hI y0 hy0 y1 hy1 g0)) (by have q := b_312 M.1 M.2.1 hI y0 hy0 y1 hy1 (by rw [e]; decide); rw [e] at q; exact q) (by decide) (by decide)
  | true =>
    cases g1 : inB y1 0 48 with
    | false =>
      have e : tAft w y0 y1 = 2 := by simp [tAft, g0, g1]
      exact BP.bad C M S W O (c := 2) (u_369_1 y0 y1 h0 (z_171_1 C hI y0 hy0 y1 hy1 g0 g1)) (by have q := b_312 M.1 M.2.1 hI y0 hy0 y1 hy1 (by rw [e]; decide); rw [e] at q; exact q) (by decide) (by decide)
    | true =>
      obtain ⟨k0, rfl⟩ : ∃ k : Nat, y0 = ((k : Nat) : Int) := ⟨y0.toNat, by have := isBa_iff.mp g0; omega⟩
      obtain ⟨k1, rfl⟩ : ∃ k : Nat, y1 = ((k : Nat) : Int) := ⟨y1.toNat, by have := inB_iff.mp g1; omega⟩
      have e0 := isBa_iff.mp g0
      have e1 := inB_iff.mp g1
      obtain ⟨h1, c1, C1, F1⟩ := x_171 C hI k0 k1 g0 g1 (by omega)
      have MH := M.mv (h' := sw h1 236 (lgC g (bo (passW w k1) k0 0))) fun a h1 h2 => (sw_ne (by omega)).trans (F1.1 a h1)
      exact BP.fo C M S W C1 F1 (w_369 _ _ h0 c1 ((F1.1 236 (by decide)).trans O)) (c_312 MH.1 MH.2.1 hI MH.2.2.2.1 k0 k1 (by omega) (by omega) (by omega))
theorem l_53 (J : JJ h t g w ps kp T bu ek eo rl rp) (y0 : Int) (hy0 : inR y0) (y1 : Int) (hy1 : inR y1) : BP 7 370 9 316 [aI y0, aI y1] h := by
  obtain ⟨C, ⟨s, b0, as, P, kd, tx, nu, M, S⟩, W, O⟩ := J
  have hI := W.1.1.1
  obtain ⟨h0, hR, -⟩ := id C
  have hbn := hI.bNe
  have h99 := W.1.1.2.1
  cases g0 : isBa w y0 with
  | false =>
    have e : tAft w y0 y1 = 1 := by simp [tAft, g0]
    exact BP.bad C M S W O (c := 1) (u_370_0 y0 y1 h0 (z_173_0 C hI y0 hy0 y1 hy1 g0)) (by have q := b_316 M.1 M.2.1 hI y0 hy0 y1 hy1 (by rw [e]; decide); rw [e] at q; exact q) (by decide) (by decide)
  | true =>
    cases g1 : inB y1 0 48 with
    | false =>
      have e : tAft w y0 y1 = 2 := by simp [tAft, g0, g1]
      exact BP.bad C M S W O (c := 2) (u_370_1 y0 y1 h0 (z_173_1 C hI y0 hy0 y1 hy1 g0 g1)) (by have q := b_316 M.1 M.2.1 hI y0 hy0 y1 hy1 (by rw [e]; decide); rw [e] at q; exact q) (by decide) (by decide)
    | true =>
      obtain ⟨k0, rfl⟩ : ∃ k : Nat, y0 = ((k : Nat) : Int) := ⟨y0.toNat, by have := isBa_iff.mp g0; omega⟩
      obtain ⟨k1, rfl⟩ : ∃ k : Nat, y1 = ((k : Nat) : Int) := ⟨y1.toNat, by have := inB_iff.mp g1; omega⟩
      have e0 := isBa_iff.mp g0
      have e1 := inB_iff.mp g1
      obtain ⟨h1, c1, C1, F1⟩ := x_173 C hI k0 k1 g0 g1 (by omega)
      have MH := M.mv (h' := sw h1 236 (lgC g (bo (passW w k1) k0 3))) fun a h1 h2 => (sw_ne (by omega)).trans (F1.1 a h1)
      exact BP.fo C M S W C1 F1 (w_370 _ _ h0 c1 ((F1.1 236 (by decide)).trans O)) (c_316 MH.1 MH.2.1 hI MH.2.2.2.1 k0 k1 (by omega) (by omega) (by omega))
theorem l_54 (J : JJ h t g w ps kp T bu ek eo rl rp) (y0 : Int) (hy0 : inR y0) : BP 6 371 8 317 [aI y0] h := by
  obtain ⟨C, ⟨s, b0, as, P, kd, tx, nu, M, S⟩, W, O⟩ := J
  have hI := W.1.1.1
  obtain ⟨h0, hR, -⟩ := id C
  have hbn := hI.bNe
  have hpn := hI.pNe
  have h99 := W.1.1.2.1
  cases g0 : isBa w y0 with
  | false =>
    have e : tBa w y0 = 1 := by simp [tBa, g0]
    exact BP.bad C M S W O (c := 1) (u_371_0 y0 h0 (z_174_0 C hI y0 hy0 g0)) (by have q := b_317 M.1 M.2.1 hI y0 hy0 (by rw [e]; decide); rw [e] at q; exact q) (by decide) (by decide)
  | true =>
    obtain ⟨k0, rfl⟩ : ∃ k : Nat, y0 = ((k : Nat) : Int) := ⟨y0.toNat, by have := isBa_iff.mp g0; omega⟩
    have e0 := isBa_iff.mp g0
    obtain ⟨h1, c1, C1, F1⟩ := x_174 C hI k0 g0 (by omega)
    have MH := M.mv (h' := sw h1 236 (lgC g (sinkN w k0))) fun a h1 h2 => (sw_ne (by omega)).trans (F1.1 a h1)
    by_cases h2 : bo w k0 3 = 1
    · exact BP.fo C M S W C1 F1 (w_371 _ h0 c1 ((F1.1 236 (by decide)).trans O)) (c_317 MH.1 MH.2.1 hI MH.2.2.2.1 k0 (by omega) (by omega) h2)
    · exact BP.fp C M S W C1 F1 (w_371 _ h0 c1 ((F1.1 236 (by decide)).trans O)) (d_317 MH.1 MH.2.1 hI k0 (by omega) h2)
theorem l_55 (J : JJ h t g w ps kp T bu ek eo rl rp) (y0 : Int) (hy0 : inR y0) : BP 6 372 8 318 [aI y0] h := by
  obtain ⟨C, ⟨s, b0, as, P, kd, tx, nu, M, S⟩, W, O⟩ := J
  have hI := W.1.1.1
  obtain ⟨h0, hR, -⟩ := id C
  have hbn := hI.bNe
  have hpn := hI.pNe
  have h99 := W.1.1.2.1
  cases g0 : isPa w y0 with
  | false =>
    have e : tPa w y0 = 1 := by simp [tPa, g0]
    exact BP.bad C M S W O (c := 1) (u_372_0 y0 h0 (z_175_0 C hI y0 hy0 g0)) (by have q := b_318 M.1 M.2.1 hI y0 hy0 (by rw [e]; decide); rw [e] at q; exact q) (by decide) (by decide)
  | true =>
    obtain ⟨k0, rfl⟩ : ∃ k : Nat, y0 = ((k : Nat) : Int) := ⟨y0.toNat, by have := isPa_iff.mp g0; omega⟩
    have e0 := isPa_iff.mp g0
    obtain ⟨h1, c1, C1, F1⟩ := x_175 C hI k0 g0 (by omega)
    have MH := M.mv (h' := sw h1 236 (lgC g (destN w k0))) fun a h1 h2 => (sw_ne (by omega)).trans (F1.1 a h1)
    by_cases h2 : ¬ pa w k0 4 = 2
    · exact BP.fo C M S W C1 F1 (w_372 _ h0 c1 ((F1.1 236 (by decide)).trans O)) (c_318 MH.1 MH.2.1 hI MH.2.2.2.1 k0 (by omega) (by omega) h2)
    · exact BP.fp C M S W C1 F1 (w_372 _ h0 c1 ((F1.1 236 (by decide)).trans O)) (d_318 MH.1 MH.2.1 hI k0 (by omega) (Decidable.of_not_not h2))
theorem x_125 (C : CR h w ps kp T bu ek eo rl rp) (hI : Inv0 w) : Ct 4 125 [aR 0] h (.inl (some (aI (viol w))), h) := by
  obtain ⟨h0, hR, hK, hT, hH, hS, hB⟩ := id C
  obtain ⟨c, ⟨o0, o1, o2, o3, o4, o5, o6, o7, o8, o9, o10, o11, o12, o13, o14, o15, o16, o17⟩, a0, a1, a2, a3, a4, a5, a6, a7, a8, a9, a10, a11, a12, a13, a14⟩ := id hR
  have hbn := hI.bNe
  have hpn := hI.pNe
  have x0 := hI.len
  have x1 := hI.hour
  have x2 := hI.gas
  have x3 := hI.leak
  have x4 := hI.gn
  have x5 := hI.bn
  have x6 := hI.pn
  refine Ct.of [aR 0] rfl ?_
  refine r_aldR cd_125_0 rfl rfl ?_
  refine r_get cd_125_1 rfl h0 rfl ?_
  refine r_cI (k_101 hR hI ) cd_125_4 rfl rfl rfl (rc0 o0 rfl) rfl rfl rfl ?_
  refine r_aldR cd_125_7 rfl rfl ?_
  refine r_get cd_125_8 rfl h0 rfl ?_
  refine r_get cd_125_11 rfl o0 rfl ?_
  refine r_cI (k_31 hR hI ) cd_125_14 rfl rfl rfl (rc0 o10 rfl) rfl rfl rfl ?_
  refine r_add (v := (itF (ovrG w) 0 (nB w) 0) + (itF (dbsG w) 0 (nP w) 0)) cd_125_17 rfl (by rfl) ?_
  refine r_aldR cd_125_18 rfl rfl ?_
  refine r_get cd_125_19 rfl h0 rfl ?_
  refine r_cI (k_102 hR hI ) cd_125_22 rfl rfl rfl (rc0 o0 rfl) rfl rfl rfl ?_
  refine r_add (v := ((itF (ovrG w) 0 (nB w) 0) + (itF (dbsG w) 0 (nP w) 0)) + (absV (w 9 - lftS w - w 10))) cd_125_25 rfl (by rfl) ?_
  exact r_ret cd_125_26 True.intro (by rw [viol_e])
theorem x_123 (C : CR h w ps kp T bu ek eo rl rp) (hI : Inv0 w) : Ct 2 123 [aR 0] h (.inl (some (meanD w)), h) := by
  obtain ⟨h0, hR, hK, hT, hH, hS, hB⟩ := id C
  obtain ⟨c, ⟨o0, o1, o2, o3, o4, o5, o6, o7, o8, o9, o10, o11, o12, o13, o14, o15, o16, o17⟩, a0, a1, a2, a3, a4, a5, a6, a7, a8, a9, a10, a11, a12, a13, a14⟩ := id hR
  have hbn := hI.bNe
  have hpn := hI.pNe
  have x0 := hI.len
  have x1 := hI.hour
  have x2 := hI.gas
  have x3 := hI.leak
  have x4 := hI.gn
  have x5 := hI.bn
  have x6 := hI.pn
  have hl9 := hI.lft
  refine Ct.of [aR 0, aU] rfl ?_
  refine r_aldR cd_123_0 rfl rfl ?_
  refine r_get cd_123_1 rfl h0 rfl ?_
  refine r_get cd_123_4 rfl o0 rfl ?_
  refine r_get cd_123_7 rfl o5 rfl ?_
  refine r_ist cd_123_10 rfl rfl (L' := [aR 0, aI (w 5)]) rfl ?_
  refine r_ild cd_123_11 rfl rfl ?_
  refine r_if52 cd_123_12 rfl (inR_of hI.bn (by decide) (by decide)) (fun n1 => ?_) (fun n1 => ?_)
  · refine r_fc (v := aW (.double FP.dconst0)) cd_123_15 rfl rfl ?_
    refine r_goto cd_123_16 ?_
    exact r_ret cd_123_33 True.intro (by first | rfl | (simp [meanD, bz, n1]; done))
  · refine r_aldR cd_123_19 rfl rfl ?_
    refine r_get cd_123_20 rfl h0 rfl ?_
    refine r_get cd_123_23 rfl o0 rfl ?_
    refine r_cI (k_9 hR hI ) cd_123_26 rfl rfl rfl (rc0 o5 rfl) rfl rfl rfl ?_
    refine r_i2d cd_123_29 rfl ?_
    refine r_ild cd_123_30 rfl rfl ?_
    refine r_i2d cd_123_31 rfl ?_
    refine r_ddiv cd_123_32 rfl (mean_nn hl9.1 hl9.2 (by omega) (by omega)) ?_
    exact r_ret cd_123_33 True.intro (by first | rfl | (simp [meanD, bz, n1]; done))
theorem x_124 (C : CR h w ps kp T bu ek eo rl rp) (hI : Inv0 w) : Ct 2 124 [aR 0] h (.inl (some (shareF w)), h) := by
  obtain ⟨h0, hR, hK, hT, hH, hS, hB⟩ := id C
  obtain ⟨c, ⟨o0, o1, o2, o3, o4, o5, o6, o7, o8, o9, o10, o11, o12, o13, o14, o15, o16, o17⟩, a0, a1, a2, a3, a4, a5, a6, a7, a8, a9, a10, a11, a12, a13, a14⟩ := id hR
  have hbn := hI.bNe
  have hpn := hI.pNe
  have x0 := hI.len
  have x1 := hI.hour
  have x2 := hI.gas
  have x3 := hI.leak
  have x4 := hI.gn
  have x5 := hI.bn
  have x6 := hI.pn
  have hl9 := hI.clm
  refine Ct.of [aR 0, aU] rfl ?_
  refine r_aldR cd_124_0 rfl rfl ?_
  refine r_get cd_124_1 rfl h0 rfl ?_
  refine r_get cd_124_4 rfl o0 rfl ?_
  refine r_get cd_124_7 rfl o10 rfl ?_
  refine r_ist cd_124_10 rfl rfl (L' := [aR 0, aI (w 6)]) rfl ?_
  refine r_ild cd_124_11 rfl rfl ?_
  refine r_if52 cd_124_12 rfl (inR_of hI.pn (by decide) (by decide)) (fun n1 => ?_) (fun n1 => ?_)
  · refine r_fc (v := aW (.float FP.fconst0)) cd_124_15 rfl rfl ?_
    refine r_goto cd_124_16 ?_
    exact r_ret cd_124_33 True.intro (by first | rfl | (simp [shareF, bz, n1]; done))
  · refine r_aldR cd_124_19 rfl rfl ?_
    refine r_get cd_124_20 rfl h0 rfl ?_
    refine r_get cd_124_23 rfl o0 rfl ?_
    refine r_cI (k_30 hR hI ) cd_124_26 rfl rfl rfl (rc0 o10 rfl) rfl rfl rfl ?_
    refine r_i2f cd_124_29 rfl ?_
    refine r_ild cd_124_30 rfl rfl ?_
    refine r_i2f cd_124_31 rfl ?_
    refine r_fdiv cd_124_32 rfl (share_nn hl9.1 hl9.2 (by omega) (by omega)) ?_
    exact r_ret cd_124_33 True.intro (by first | rfl | (simp [shareF, bz, n1]; done))
theorem l_60 (J : JJ h t g w ps kp T bu ek eo rl rp) : AP 4 125 5 324 [] h := by
  obtain ⟨C, ⟨s, b0, as, P, kd, tx, nu, M, S⟩, W, O⟩ := J
  have hI := W.1.1.1
  obtain ⟨h0, hR, -⟩ := id C
  exact AP.ok C M S W O (x_125 C hI) (c_324 M.1 M.2.1 hI)
theorem x_127 (C : CR h w ps kp T bu ek eo rl rp) (hI : Inv0 w) (hr0 : rl ≤ 30) (hr : ∀ k, k < rl → 0 ≤ rp k ∧ rp k < 128) (x : Int) (hx : inR x) : Ct 1 127 [aR 0, aI x] h (.inl (some (aI (if inB x 0 (((rl : Nat) : Int) - 1) = true then rp x.toNat else -1))), h) := by
  obtain ⟨h0, -, -, -, -, -, ⟨rb, hB, hb⟩⟩ := id C
  by_cases e : 0 ≤ x ∧ x ≤ ((rl : Nat) : Int) - 1
  · obtain ⟨k, rfl⟩ : ∃ k : Nat, x = ((k : Nat) : Int) := ⟨x.toNat, by omega⟩
    rw [if_pos (inB_iff.mpr e), Int.toNat_natCast, ← hb k (by omega)]
    refine Ct.of [aR 0, aI ((k : Nat) : Int)] rfl ?_
    refine r_ild cd_127_0 rfl rfl ?_
    refine r_if53 cd_127_1 rfl ⟨by omega, by omega⟩ (fun n1 => ?_) (fun n1 => ?_)
    · exact absurd e (by omega)
    · refine r_ild cd_127_4 rfl rfl ?_
      refine r_aldR cd_127_5 rfl rfl ?_
      refine r_get cd_127_6 rfl h0 rfl ?_
      refine r_ic64 cd_127_9 rfl ⟨by omega, by omega⟩ ⟨by omega, by omega⟩ (fun n2 => ?_) (fun n2 => ?_)
      · refine r_ild cd_127_12 rfl rfl ?_
        refine r_aldR cd_127_13 rfl rfl ?_
        refine r_get cd_127_14 rfl h0 rfl ?_
        refine r_len cd_127_17 rfl hB rfl ?_
        refine r_ic63 cd_127_18 rfl ⟨by omega, by omega⟩ ⟨by omega, by omega⟩ (fun n3 => ?_) (fun n3 => ?_)
        · refine r_aldR cd_127_23 rfl rfl ?_
          refine r_get cd_127_24 rfl h0 rfl ?_
          refine r_ild cd_127_27 rfl rfl ?_
          refine r_arr (i := k) cd_127_28 rfl hB rfl (by omega) rfl ?_
          exact r_ret cd_127_29 True.intro (rfl)
        · exact absurd e (by omega)
      · exact absurd e (by omega)
  · rw [if_neg (fun q => e (inB_iff.mp q))]
    refine Ct.of [aR 0, aI x] rfl ?_
    refine r_ild cd_127_0 rfl rfl ?_
    refine r_if53 cd_127_1 rfl hx (fun n1 => ?_) (fun n1 => ?_)
    · refine r_con (v := (-1)) cd_127_21 rfl (by decide) ?_
      exact r_ret cd_127_22 True.intro (rfl)
    · refine r_ild cd_127_4 rfl rfl ?_
      refine r_aldR cd_127_5 rfl rfl ?_
      refine r_get cd_127_6 rfl h0 rfl ?_
      refine r_ic64 cd_127_9 rfl hx ⟨by omega, by omega⟩ (fun n2 => ?_) (fun n2 => ?_)
      · refine r_ild cd_127_12 rfl rfl ?_
        refine r_aldR cd_127_13 rfl rfl ?_
        refine r_get cd_127_14 rfl h0 rfl ?_
        refine r_len cd_127_17 rfl hB rfl ?_
        refine r_ic63 cd_127_18 rfl hx ⟨by omega, by omega⟩ (fun n3 => ?_) (fun n3 => ?_)
        · exact absurd e (by omega)
        · refine r_con (v := (-1)) cd_127_21 rfl (by decide) ?_
          exact r_ret cd_127_22 True.intro (rfl)
      · refine r_con (v := (-1)) cd_127_21 rfl (by decide) ?_
        exact r_ret cd_127_22 True.intro (rfl)
theorem l_62 (J : JJ h t g w ps kp T bu ek eo rl rp) (x : Int) (hx : inR x) : AP 1 127 2 330 [aI x] h := by
  obtain ⟨C, ⟨s, b0, as, P, kd, tx, nu, M, S⟩, W, O⟩ := J
  have hI := W.1.1.1
  obtain ⟨h0, hR, -⟩ := id C
  exact AP.ok C M S W O (x_127 C hI W.2.2.2.2.2.2.1 W.2.2.2.2.2.2.2 x hx) (by have q := c_330 M.1 M.2.1 M.2.2.2.2.2.2.2.2.1 (by rw [S.2.2.2.2.2.1]; omega) (by have := W.2.2.2.2.2.2.1; rw [S.2.2.2.2.2.1]; omega) x hx; rw [S.2.2.2.2.2.1] at q; exact q)
theorem lp_126 (hI : Inv0 w) {N : Nat} (hN : N ≤ 30) : ∀ (m i : Nat) {h1 : aH} {rb : Nat → Int}, i + m = N → h1.2.2 0 = .inr (7, [aR 1, aR 19, aR 37, aR 55, aR 201, aR 225, aI ((N : Nat) : Int), aI (kI kp)]) → Rp h1 1 w → h1.2.2 225 = .inl (1, 30, .inl rb) → ∃ h', RU 3 126 (.inl (some (aI ((N : Nat) : Int))), h') (16, [aR 0, aI ((i : Nat) : Int)], [], 0, 0, h1) ∧ h'.2.2 225 = .inl (1, 30, .inl (wrB w i m rb)) ∧ (∀ a, ¬ a = 225 → h'.2.2 a = h1.2.2 a) ∧ h'.1 = h1.1 ∧ h'.2.1 = h1.2.1 := by
  intro m
  induction m with
  | zero =>
    intro i h1 rb hm k0 hR hB
    obtain ⟨fs, q9⟩ := hR.o
    refine ⟨h1, ?_, hB, fun _ _ => rfl, rfl, rfl⟩
    refine r_ild cd_126_16 rfl rfl ?_
    refine r_aldR cd_126_17 rfl rfl ?_
    refine r_get cd_126_18 rfl k0 rfl ?_
    refine r_ic64 cd_126_21 rfl ⟨by omega, by omega⟩ ⟨by omega, by omega⟩ (fun n1 => ?_) (fun n1 => ?_)
    · exact absurd n1 (by omega)
    · refine r_aldR cd_126_53 rfl rfl ?_
      refine r_get cd_126_54 rfl k0 rfl ?_
      exact r_ret cd_126_57 True.intro (rfl)
  | succ m ih =>
    intro i h1 rb hm k0 hR hB
    obtain ⟨fs, q9⟩ := hR.o
    have km := k_103 hR hI i (by omega)
    obtain ⟨h3, c3, b3, f3, e1, e2⟩ := ih (i + 1) (h1 := sw h1 225 (.inl (1, 30, .inl (va_up rb i (byI (markI w i)))))) (by omega) ((sw_ne (by decide)).trans k0) (hR.mv fun a g1 g2 => sw_ne (by omega)) (sw_at _ _ _)
    refine ⟨h3, ?_, b3, fun a ha => (f3 a ha).trans (sw_ne ha), e1, e2⟩
    refine r_ild cd_126_16 rfl rfl ?_
    refine r_aldR cd_126_17 rfl rfl ?_
    refine r_get cd_126_18 rfl k0 rfl ?_
    refine r_ic64 cd_126_21 rfl ⟨by omega, by omega⟩ ⟨by omega, by omega⟩ (fun n1 => ?_) (fun n1 => ?_)
    · refine r_ild cd_126_24 rfl rfl ?_
      refine r_aldR cd_126_25 rfl rfl ?_
      refine r_get cd_126_26 rfl k0 rfl ?_
      refine r_len cd_126_29 rfl hB rfl ?_
      refine r_ic64 cd_126_30 rfl ⟨by omega, by omega⟩ ⟨by omega, by omega⟩ (fun n2 => ?_) (fun n2 => ?_)
      · refine r_aldR cd_126_33 rfl rfl ?_
        refine r_get cd_126_34 rfl k0 rfl ?_
        refine r_ild cd_126_37 rfl rfl ?_
        refine r_aldR cd_126_38 rfl rfl ?_
        refine r_get cd_126_39 rfl k0 rfl ?_
        refine r_ild cd_126_42 rfl rfl ?_
        refine r_cI km cd_126_43 rfl rfl rfl (rc0 q9 rfl) rfl rfl rfl ?_
        refine r_arsB (i := i) cd_126_46 rfl rfl hB rfl (by omega) rfl ?_
        refine r_inc (v := ((i + 1 : Nat) : Int)) cd_126_47 rfl rfl rfl (by omega) (L' := [aR 0, aI ((i + 1 : Nat) : Int)]) rfl ?_
        refine r_goto cd_126_50 ?_
        exact c3
      · exact absurd n2 (by omega)
    · exact absurd n1 (by omega)
theorem x_126 (C : CR h w ps kp T bu ek eo rl rp) (hI : Inv0 w) {N : Nat} (hN : w 0 = ((N : Nat) : Int)) : ∃ h' rb, Ct 3 126 [aR 0] h (.inl (some (aI ((N : Nat) : Int))), h') ∧ CR h' w ps kp T bu ek eo N (wrB w 0 N rb) ∧ Fc h h' := by
  obtain ⟨h0, hR, hK, hT, hH, hS, hB⟩ := id C
  have x0 := hI.len
  obtain ⟨rb, hB, hb⟩ := hB
  obtain ⟨c, ⟨o0, o1, o2, o3, o4, o5, o6, o7, o8, o9, o10, o11, o12, o13, o14, o15, o16, o17⟩, -⟩ := id hR
  obtain ⟨h3, c3, b3, f3, e1, e2⟩ := lp_126 hI (N := N) (by omega) N 0 (h1 := sw h 0 (.inr (7, [aR 1, aR 19, aR 37, aR 55, aR 201, aR 225, aI ((N : Nat) : Int), aI (kI kp)]))) (by omega) (sw_at _ _ _) (hR.mv fun a g1 g2 => sw_ne (by omega)) ((sw_ne (by decide)).trans hB)
  have fa : ∀ a, ¬ a = 225 → ¬ a = 0 → h3.2.2 a = h.2.2 a := fun a g1 g2 => (f3 a g1).trans (sw_ne g2)
  refine ⟨h3, rb, Ct.of [aR 0, aU] rfl ?_, ⟨(f3 0 (by decide)).trans (sw_at _ _ _), hR.mv fun a g1 g2 => fa a (by omega) (by omega), hK.mv fun a g1 g2 => fa a (by omega) (by omega), hT.mv fun a g1 g2 => fa a (by omega) (by omega), hH.mv fun a g1 g2 => fa a (by omega) (by omega), hS.mv fun a g1 g2 => fa a (by omega) (by omega), ⟨_, b3, fun _ _ => rfl⟩⟩, ⟨fun a ha => fa a (by omega) (by omega), e1, e2⟩⟩
  refine r_aldR cd_126_0 rfl rfl ?_
  refine r_aldR cd_126_1 rfl rfl ?_
  refine r_get cd_126_2 rfl h0 rfl ?_
  refine r_get cd_126_5 rfl o0 rfl ?_
  refine r_get (v := aI ((N : Nat) : Int)) cd_126_8 rfl o1 (by rw [← hN]; rfl) ?_
  refine r_put (fs' := [aR 1, aR 19, aR 37, aR 55, aR 201, aR 225, aI ((N : Nat) : Int), aI (kI kp)]) cd_126_11 rfl h0 rfl rfl ?_
  refine r_con (v := 0) cd_126_14 rfl (by decide) ?_
  refine r_ist cd_126_15 rfl rfl (L' := [aR 0, aI 0]) rfl ?_
  exact c3
theorem l_61 (J : JJ h t g w ps kp T bu ek eo rl rp) : AP 3 126 5 326 [] h := by
  obtain ⟨C, ⟨s, b0, as, P, kd, tx, nu, M, S⟩, W, O⟩ := J
  have hI := W.1.1.1
  obtain ⟨h0, hR, -⟩ := id C
  have x0 := hI.len
  obtain ⟨N, hN⟩ : ∃ N : Nat, w 0 = ((N : Nat) : Int) := ⟨(w 0).toNat, by omega⟩
  obtain ⟨h1, rb, c1, C1, F1⟩ := x_126 C hI hN
  have MH := M.mv (h' := h1) fun a h1 h2 => F1.1 a h1
  have c2 := c_326 MH.1 MH.2.1 hI MH.2.2.2.2.2.2.2.2.1
  have hn : (w 0).toNat = N := by omega
  rw [hn] at c2
  have ew : ∀ k, k < N → wrB w 0 N rb k = rpF w 0 N rp k ∧ 0 ≤ rpF w 0 N rp k ∧ rpF w 0 N rp k < 128 := fun k hk => wr_rp hI hk
  obtain ⟨k1, k2, k3, k4, k5, k6, ⟨rb9, k7, k8⟩⟩ := C1
  obtain ⟨m1, m2, m3, m4, m5, m6, m7, m8, m9, m10⟩ := MH
  obtain ⟨a1, a2, a3, a4, a5, a6, -, a8⟩ := S
  have fb : ∀ a, ¬ a = 226 → ¬ a = 234 → _ := fun a g1 g2 => (sw_ne (h := sw h1 226 (.inr (8, Mo (va_up (va_up s 15 0) 14 (w 0))))) (c := .inl (2, 30, .inl (rpF w 0 N rp))) g2).trans (sw_ne g1)
  refine ⟨h1, _, ((N : Nat) : Int), 0, g, w, ps, kp, T, bu, ek, eo, N, rpF w 0 N rp, c1, ⟨s, m1⟩, c2.eq (by rw [hN]), ⟨CR.mv (h := h1) (rl := N) (rp := rpF w 0 N rp) ⟨k1, k2, k3, k4, k5, k6, ⟨rb9, k7, fun k hk => (k8 k hk).trans (ew k hk).1⟩⟩ fun a ha => fb a (by omega) (by omega), ⟨_, b0, as, P, kd, tx, nu, ⟨(sw_ne (by decide)).trans (sw_at _ _ _), (fb 227 (by decide) (by decide)).trans m2, (fb 228 (by decide) (by decide)).trans m3, (fb 229 (by decide) (by decide)).trans m4, (fb 230 (by decide) (by decide)).trans m5, (fb 231 (by decide) (by decide)).trans m6, (fb 232 (by decide) (by decide)).trans m7, (fb 233 (by decide) (by decide)).trans m8, sw_at _ _ _, (fb 235 (by decide) (by decide)).trans m10⟩, ⟨a1, a2, a3, a4, a5, (vu_at _ _ _).trans hN, (vu_ne (by decide)).trans (vu_at _ _ _), a8⟩⟩, ⟨W.1, W.2.1, W.2.2.1, W.2.2.2.1, W.2.2.2.2.1, W.2.2.2.2.2.1, by omega, fun k hk => (ew k hk).2⟩, (fb 236 (by decide) (by decide)).trans ((F1.1 236 (by decide)).trans O)⟩, F1.2.1, F1.2.1⟩
end LREST
