/-! THE REFERENCE: the report, looking ahead (written by wip/whole/gen24.py) -/
def rpF (w : Nat → Int) (k m : Nat) (d : Nat → Int) : Nat → Int := itF (fun k d => va_up d k (chI (chI (markI w k)))) k m d
theorem lp_326 {s w : Nat → Int} (hI : Inv0 w) (hs : s 14 = w 0) (NN : Nat) (hN : (NN : Int) = w 0) : ∀ (m k : Nat) {h : aH} {d : Nat → Int}, h.2.2 226 = .inr (8, Mo s) → h.2.2 227 = .inl (0, 211, .inl w) → h.2.2 234 = .inl (2, 30, .inl d) → k + m = NN → RU 5 326 (.inl (some (aI (w 0))), sw h 234 (.inl (2, 30, .inl (rpF w k m d)))) (17, [aR 226, aI ((k : Nat) : Int)], [], 0, 0, h) := by
  intro m
  induction m with
  | zero =>
    intro k h d hM hw hd hm
    have hbn := hI.bNe
    have hpn := hI.pNe
    have x0 := hI.len
    have x1 := hI.hour
    have x2 := hI.gas
    have x3 := hI.leak
    have x4 := hI.gn
    have x5 := hI.bn
    have x6 := hI.pn
    refine r_ild cd_326_17 rfl rfl ?_
    refine r_aldR cd_326_18 rfl rfl ?_
    refine r_get cd_326_19 rfl hM rfl ?_
    refine r_con (v := 0) cd_326_22 rfl (by decide) ?_
    refine r_arr (i := 0) cd_326_23 rfl hw rfl (by omega) rfl ?_
    refine r_ic64 cd_326_24 rfl ⟨by omega, by omega⟩ (inR_of hI.len (by decide) (by decide)) (fun n1 => ?_) (fun n1 => ?_)
    · exact absurd n1 (by omega)
    · refine r_aldR cd_326_45 rfl rfl ?_
      refine r_get cd_326_46 rfl hM rfl ?_
      exact r_ret cd_326_49 True.intro (by rw [hs, sw_id (show h.2.2 234 = .inl (2, 30, .inl (rpF w k 0 d)) from hd)])
  | succ m ih =>
    intro k h d hM hw hd hm
    have hbn := hI.bNe
    have hpn := hI.pNe
    have x0 := hI.len
    have x1 := hI.hour
    have x2 := hI.gas
    have x3 := hI.leak
    have x4 := hI.gn
    have x5 := hI.bn
    have x6 := hI.pn
    refine r_ild cd_326_17 rfl rfl ?_
    refine r_aldR cd_326_18 rfl rfl ?_
    refine r_get cd_326_19 rfl hM rfl ?_
    refine r_con (v := 0) cd_326_22 rfl (by decide) ?_
    refine r_arr (i := 0) cd_326_23 rfl hw rfl (by omega) rfl ?_
    refine r_ic64 cd_326_24 rfl ⟨by omega, by omega⟩ (inR_of hI.len (by decide) (by decide)) (fun n1 => ?_) (fun n1 => ?_)
    · refine r_aldR cd_326_27 rfl rfl ?_
      refine r_get cd_326_28 rfl hM rfl ?_
      refine r_ild cd_326_31 rfl rfl ?_
      refine r_aldR cd_326_32 rfl rfl ?_
      refine r_ild cd_326_33 rfl rfl ?_
      refine r_cI (c_327 hM hw hI k (by omega)) cd_326_34 rfl rfl rfl (rc0 hM rfl) rfl rfl rfl ?_
      refine r_i2c cd_326_37 rfl ?_
      refine r_arsC (i := k) cd_326_38 rfl rfl hd rfl (by omega) rfl ?_
      refine r_inc (v := ((k + 1 : Nat) : Int)) cd_326_39 rfl rfl rfl (by omega) (L' := [aR 226, aI ((k + 1 : Nat) : Int)]) rfl ?_
      refine r_goto cd_326_42 ?_
      refine RU.res ?_ (ih (k + 1) (h := sw h 234 (.inl (2, 30, .inl (va_up d k (chI (chI (markI w k))))))) ((sw_ne (by decide)).trans hM) ((sw_ne (by decide)).trans hw) (sw_at _ _ _) (by omega))
      rw [sw_sw]
      rfl
    · exact absurd n1 (by omega)
theorem c_326 {h : aH} {s w : Nat → Int} (hM : h.2.2 226 = .inr (8, Mo s)) (hw : h.2.2 227 = .inl (0, 211, .inl w)) (hI : Inv0 w) {rp : Nat → Int} (hr : h.2.2 234 = .inl (2, 30, .inl rp))  : Ct 5 326 [aR 226] h (.inl (some (aI (w 0))), sw (sw h 226 (.inr (8, Mo (va_up (va_up s 15 0) 14 (w 0))))) 234 (.inl (2, 30, .inl (rpF w 0 (w 0).toNat rp)))) := by
  refine Ct.of [aR 226, aU] rfl ?_
  have hbn := hI.bNe
  have hpn := hI.pNe
  have x0 := hI.len
  have x1 := hI.hour
  have x2 := hI.gas
  have x3 := hI.leak
  have x4 := hI.gn
  have x5 := hI.bn
  have x6 := hI.pn
  refine r_aldR cd_326_0 rfl rfl ?_
  refine r_con (v := 0) cd_326_1 rfl (by decide) ?_
  refine r_put (fs' := Mo (va_up s 15 0)) cd_326_2 rfl hM rfl rfl ?_
  refine r_aldR cd_326_5 rfl rfl ?_
  refine r_aldR cd_326_6 rfl rfl ?_
  refine r_get cd_326_7 rfl (sw_at _ _ _) rfl ?_
  refine r_con (v := 0) cd_326_10 rfl (by decide) ?_
  refine r_arr (i := 0) cd_326_11 rfl ((sw_ne (by decide)).trans hw) rfl (by omega) rfl ?_
  refine r_put (fs' := Mo (va_up (va_up s 15 0) 14 (w 0))) cd_326_12 rfl (sw_at _ _ _) rfl rfl ?_
  rw [sw_sw]
  refine r_con (v := 0) cd_326_15 rfl (by decide) ?_
  refine r_ist cd_326_16 rfl rfl (L' := [aR 226, aI 0]) rfl ?_
  exact lp_326 hI (vu_at _ _ _) (w 0).toNat (by omega) (w 0).toNat 0 (sw_at _ _ _) ((sw_ne (by decide)).trans hw) ((sw_ne (by decide)).trans hr) (by omega)
theorem c_330 {h : aH} {s w : Nat → Int} (hM : h.2.2 226 = .inr (8, Mo s)) (hw : h.2.2 227 = .inl (0, 211, .inl w)) {rp : Nat → Int} (hr : h.2.2 234 = .inl (2, 30, .inl rp)) (hs0 : 0 ≤ s 14) (hs1 : s 14 ≤ 30) (x : Int) (hx : inR x) : Ct 2 330 [aR 226, aI x] h (.inl (some (aI (if inB x 0 (s 14 - 1) = true then rp x.toNat else -1))), sw h 226 (.inr (8, Mo (va_up s 15 (0))))) := by
  refine Ct.of [aR 226, aI x] rfl ?_
  refine r_aldR cd_330_0 rfl rfl ?_
  refine r_con (v := 0) cd_330_1 rfl (by decide) ?_
  refine r_put (fs' := Mo (va_up s 15 0)) cd_330_2 rfl hM rfl rfl ?_
  refine r_ild cd_330_5 rfl rfl ?_
  refine r_con (v := 0) cd_330_6 rfl (by decide) ?_
  refine r_aldR cd_330_7 rfl rfl ?_
  refine r_get (v := aI (s 14)) cd_330_8 rfl (sw_at _ _ _) (rfl) ?_
  refine r_con (v := 1) cd_330_11 rfl (by decide) ?_
  refine r_sub (v := (s 14) - 1) cd_330_12 rfl (by rfl) ?_
  refine r_cI (c_186 x hx 0 ⟨by omega, by omega⟩ ((s 14) - 1) ⟨by omega, by omega⟩) cd_330_13 rfl rfl rfl True.intro rfl rfl rfl ?_
  refine r_if51b cd_330_16 rfl (fun n1 => ?_) (fun n1 => ?_)
  · refine r_con (v := (-1)) cd_330_28 rfl (by decide) ?_
    exact r_ret cd_330_29 True.intro (by first | rfl | (simp [bz, n1]; done))
  · have e_x := inB_iff.mp n1
    refine r_aldR cd_330_19 rfl rfl ?_
    refine r_get cd_330_20 rfl (sw_at _ _ _) rfl ?_
    refine r_ild cd_330_23 rfl rfl ?_
    refine r_arr (i := x.toNat) cd_330_24 rfl ((sw_ne (by decide)).trans hr) (by omega) (by omega) rfl ?_
    refine r_goto cd_330_25 ?_
    exact r_ret cd_330_29 True.intro (by first | rfl | (simp [bz, n1]; done))
theorem c_313 {h : aH} {s w : Nat → Int} (hM : h.2.2 226 = .inr (8, Mo s)) (hw : h.2.2 227 = .inl (0, 211, .inl w)) (hI : Inv0 w) {as : Nat → Int} (ha : h.2.2 229 = .inl (0, 211, .inl as)) (b : Nat) (k : Nat) (n : Nat) (g0 : b < nB w) (g1 : k < 4) (g2 : n ≤ 48) (g3 : w 1 ≤ 1000) : Ct 8 313 [aR 226, aI ((b : Nat) : Int), aI ((k : Nat) : Int), aI ((n : Nat) : Int)] h (.inl (some (aI (bo (passW w n) b k))), sw (sw h 226 (.inr (8, Mo (va_up s 15 0)))) 229 (.inl (0, 211, .inl (cpF w 0 0 0 211 as)))) := by
  refine Ct.of [aR 226, aI ((b : Nat) : Int), aI ((k : Nat) : Int), aI ((n : Nat) : Int), aU] rfl ?_
  have hbn := hI.bNe
  have hpn := hI.pNe
  have x0 := hI.len
  have x1 := hI.hour
  have x2 := hI.gas
  have x3 := hI.leak
  have x4 := hI.gn
  have x5 := hI.bn
  have x6 := hI.pn
  have e1 : isBa w ((b : Nat) : Int) = true := isBa_iff.mpr (by omega)
  have e2 : inB ((n : Nat) : Int) 0 48 = true := inB_iff.mpr (by omega)
  have hP := pass_inv hI (n := n) (by omega)
  refine r_aldR cd_313_0 rfl rfl ?_
  refine r_aldR cd_313_1 rfl rfl ?_
  refine r_ild cd_313_2 rfl rfl ?_
  refine r_cI (c_265 hM hw hI ((b : Nat) : Int) ⟨by omega, by omega⟩) cd_313_3 rfl rfl rfl (rc0 hM rfl) rfl rfl rfl ?_
  refine r_if52b cd_313_6 rfl (fun n1 => ?_) (fun n1 => ?_)
  · exact Bool.noConfusion (n1.symm.trans e1)
  · refine r_con (v := 0) cd_313_13 rfl (by decide) ?_
    refine r_ild cd_313_14 rfl rfl ?_
    refine r_con (v := 0) cd_313_15 rfl (by decide) ?_
    refine r_con (v := 48) cd_313_16 rfl (by decide) ?_
    refine r_cI (c_186 ((n : Nat) : Int) ⟨by omega, by omega⟩ 0 ⟨by omega, by omega⟩ 48 ⟨by omega, by omega⟩) cd_313_18 rfl rfl rfl True.intro rfl rfl rfl ?_
    refine r_if52b cd_313_21 rfl (fun n2 => ?_) (fun n2 => ?_)
    · exact Bool.noConfusion (n2.symm.trans e2)
    · refine r_con (v := 0) cd_313_28 rfl (by decide) ?_
      refine r_cI (c_255 hM false false) cd_313_29 rfl rfl rfl (rc0 hM rfl) rfl rfl rfl ?_
      show RU _ _ _ (_, _, _, _, _, sw _ 226 (.inr (8, Mo (va_up s 15 0))))
      refine r_if51b cd_313_32 rfl (fun n3 => ?_) (fun n3 => ?_)
      · refine r_aldR cd_313_37 rfl rfl ?_
        refine r_cV (c_314 (sw_at _ _ _) ((sw_ne (by decide)).trans hw) ((sw_ne (by decide)).trans ha)) cd_313_38 rfl rfl rfl (rc0 (sw_at _ _ _) rfl) rfl rfl rfl ?_
        refine r_aldR cd_313_41 rfl rfl ?_
        refine r_ild cd_313_42 rfl rfl ?_
        refine r_cI (c_241 ((sw_ne (by decide)).trans (sw_at _ _ _)) ((sw_ne (by decide)).trans ((sw_ne (by decide)).trans hw)) hI n (by omega) (by omega)) cd_313_43 rfl rfl rfl (rc0 ((sw_ne (by decide)).trans (sw_at _ _ _)) rfl) rfl rfl rfl ?_
        refine r_pop cd_313_46 rfl rfl ?_
        refine r_aldR cd_313_47 rfl rfl ?_
        refine r_ild cd_313_48 rfl rfl ?_
        refine r_ild cd_313_49 rfl rfl ?_
        refine r_cI (c_209 ((sw_ne (by decide)).trans ((sw_ne (by decide)).trans (sw_at _ _ _))) (sw_at _ _ _) b k (by omega)) cd_313_50 rfl rfl rfl (rc0 ((sw_ne (by decide)).trans ((sw_ne (by decide)).trans (sw_at _ _ _))) rfl) rfl rfl rfl ?_
        refine r_ist cd_313_53 rfl rfl (L' := [aR 226, aI ((b : Nat) : Int), aI ((k : Nat) : Int), aI ((n : Nat) : Int), aI (bo (passW w n) b k)]) rfl ?_
        refine r_aldR cd_313_55 rfl rfl ?_
        refine r_cV (c_315 ((sw_ne (by decide)).trans ((sw_ne (by decide)).trans (sw_at _ _ _))) ((sw_ne (by decide)).trans (sw_at _ _ _)) (sw_at _ _ _)) cd_313_56 rfl rfl rfl (rc0 ((sw_ne (by decide)).trans ((sw_ne (by decide)).trans (sw_at _ _ _))) rfl) rfl rfl rfl ?_
        rw [sw_sw]
        refine r_ild cd_313_59 rfl rfl ?_
        exact r_ret cd_313_61 True.intro (by rw [cp_back (w := w) (fun j hj => cp_to hj) hI.tail hP.1.tail, sw_id ((sw_ne (by decide)).trans ((sw_ne (by decide)).trans hw))]; try rfl)
      · exact absurd n3 (by decide)
theorem c_312 {h : aH} {s w : Nat → Int} (hM : h.2.2 226 = .inr (8, Mo s)) (hw : h.2.2 227 = .inl (0, 211, .inl w)) (hI : Inv0 w) {as : Nat → Int} (ha : h.2.2 229 = .inl (0, 211, .inl as)) (b : Nat) (n : Nat) (g0 : b < nB w) (g1 : n ≤ 48) (g2 : w 1 ≤ 1000) : Ct 9 312 [aR 226, aI ((b : Nat) : Int), aI ((n : Nat) : Int)] h (.inl (some (aI (bo (passW w n) b 0))), sw (sw h 226 (.inr (8, Mo (va_up s 15 0)))) 229 (.inl (0, 211, .inl (cpF w 0 0 0 211 as)))) := by
  refine Ct.of [aR 226, aI ((b : Nat) : Int), aI ((n : Nat) : Int)] rfl ?_
  have hbn := hI.bNe
  have hpn := hI.pNe
  have x0 := hI.len
  have x1 := hI.hour
  have x2 := hI.gas
  have x3 := hI.leak
  have x4 := hI.gn
  have x5 := hI.bn
  have x6 := hI.pn
  refine r_aldR cd_312_0 rfl rfl ?_
  refine r_ild cd_312_1 rfl rfl ?_
  refine r_con (v := 0) cd_312_2 rfl (by decide) ?_
  refine r_ild cd_312_3 rfl rfl ?_
  refine r_cI (c_313 hM hw hI ha b 0 n (by omega) (by omega) (by omega) (by omega)) cd_312_4 rfl rfl rfl (rc0 hM rfl) rfl rfl rfl ?_
  exact r_ret cd_312_7 True.intro (rfl)
theorem c_316 {h : aH} {s w : Nat → Int} (hM : h.2.2 226 = .inr (8, Mo s)) (hw : h.2.2 227 = .inl (0, 211, .inl w)) (hI : Inv0 w) {as : Nat → Int} (ha : h.2.2 229 = .inl (0, 211, .inl as)) (b : Nat) (n : Nat) (g0 : b < nB w) (g1 : n ≤ 48) (g2 : w 1 ≤ 1000) : Ct 9 316 [aR 226, aI ((b : Nat) : Int), aI ((n : Nat) : Int)] h (.inl (some (aI (bo (passW w n) b 3))), sw (sw h 226 (.inr (8, Mo (va_up s 15 0)))) 229 (.inl (0, 211, .inl (cpF w 0 0 0 211 as)))) := by
  refine Ct.of [aR 226, aI ((b : Nat) : Int), aI ((n : Nat) : Int)] rfl ?_
  have hbn := hI.bNe
  have hpn := hI.pNe
  have x0 := hI.len
  have x1 := hI.hour
  have x2 := hI.gas
  have x3 := hI.leak
  have x4 := hI.gn
  have x5 := hI.bn
  have x6 := hI.pn
  refine r_aldR cd_316_0 rfl rfl ?_
  refine r_ild cd_316_1 rfl rfl ?_
  refine r_con (v := 3) cd_316_2 rfl (by decide) ?_
  refine r_ild cd_316_3 rfl rfl ?_
  refine r_cI (c_313 hM hw hI ha b 3 n (by omega) (by omega) (by omega) (by omega)) cd_316_4 rfl rfl rfl (rc0 hM rfl) rfl rfl rfl ?_
  exact r_ret cd_316_7 True.intro (rfl)
def tAft (w : Nat → Int) (x n : Int) : Int := if isBa w x = true then (if inB n 0 48 = true then 0 else 2) else 1
def tBa (w : Nat → Int) (x : Int) : Int := if isBa w x = true then 0 else 1
def tPa (w : Nat → Int) (x : Int) : Int := if isPa w x = true then 0 else 1
theorem b_313 {h : aH} {s w : Nat → Int} (hM : h.2.2 226 = .inr (8, Mo s)) (hw : h.2.2 227 = .inl (0, 211, .inl w)) (hI : Inv0 w) (x : Int) (hx : inR x) (k : Nat) (n : Int) (hn : inR n) (g9 : ¬ tAft w x n = 0) : Ct 8 313 [aR 226, aI x, aI ((k : Nat) : Int), aI n] h (.inl (some (aI 0)), sw h 226 (.inr (8, Mo (va_up s 15 (tAft w x n))))) := by
  refine Ct.of [aR 226, aI x, aI ((k : Nat) : Int), aI n, aU] rfl ?_
  have hbn := hI.bNe
  have hpn := hI.pNe
  have x0 := hI.len
  have x1 := hI.hour
  have x2 := hI.gas
  have x3 := hI.leak
  have x4 := hI.gn
  have x5 := hI.bn
  have x6 := hI.pn
  refine r_aldR cd_313_0 rfl rfl ?_
  refine r_aldR cd_313_1 rfl rfl ?_
  refine r_ild cd_313_2 rfl rfl ?_
  refine r_cI (c_265 hM hw hI x hx) cd_313_3 rfl rfl rfl (rc0 hM rfl) rfl rfl rfl ?_
  refine r_if52b cd_313_6 rfl (fun n1 => ?_) (fun n1 => ?_)
  · refine r_con (v := 1) cd_313_9 rfl (by decide) ?_
    refine r_goto cd_313_10 ?_
    refine r_ild cd_313_14 rfl rfl ?_
    refine r_con (v := 0) cd_313_15 rfl (by decide) ?_
    refine r_con (v := 48) cd_313_16 rfl (by decide) ?_
    refine r_cI (c_186 n hn 0 ⟨by omega, by omega⟩ 48 ⟨by omega, by omega⟩) cd_313_18 rfl rfl rfl True.intro rfl rfl rfl ?_
    refine r_if52b cd_313_21 rfl (fun n2 => ?_) (fun n2 => ?_)
    · refine r_con (v := 1) cd_313_24 rfl (by decide) ?_
      refine r_goto cd_313_25 ?_
      refine r_cI (c_255 hM true true) cd_313_29 rfl rfl rfl (rc0 hM rfl) rfl rfl rfl ?_
      refine r_if51b cd_313_32 rfl (fun n3 => ?_) (fun n3 => ?_)
      · exact absurd n3 (by decide)
      · refine r_con (v := 0) cd_313_35 rfl (by decide) ?_
        exact r_ret cd_313_36 True.intro (by first | (simp [tAft, bz, n1, n2]; done) | (simp_all [tAft, bz]; done))
    · refine r_con (v := 0) cd_313_28 rfl (by decide) ?_
      refine r_cI (c_255 hM true false) cd_313_29 rfl rfl rfl (rc0 hM rfl) rfl rfl rfl ?_
      refine r_if51b cd_313_32 rfl (fun n4 => ?_) (fun n4 => ?_)
      · exact absurd n4 (by decide)
      · refine r_con (v := 0) cd_313_35 rfl (by decide) ?_
        exact r_ret cd_313_36 True.intro (by first | (simp [tAft, bz, n1, n2]; done) | (simp_all [tAft, bz]; done))
  · refine r_con (v := 0) cd_313_13 rfl (by decide) ?_
    refine r_ild cd_313_14 rfl rfl ?_
    refine r_con (v := 0) cd_313_15 rfl (by decide) ?_
    refine r_con (v := 48) cd_313_16 rfl (by decide) ?_
    refine r_cI (c_186 n hn 0 ⟨by omega, by omega⟩ 48 ⟨by omega, by omega⟩) cd_313_18 rfl rfl rfl True.intro rfl rfl rfl ?_
    refine r_if52b cd_313_21 rfl (fun n5 => ?_) (fun n5 => ?_)
    · refine r_con (v := 1) cd_313_24 rfl (by decide) ?_
      refine r_goto cd_313_25 ?_
      refine r_cI (c_255 hM false true) cd_313_29 rfl rfl rfl (rc0 hM rfl) rfl rfl rfl ?_
      refine r_if51b cd_313_32 rfl (fun n6 => ?_) (fun n6 => ?_)
      · exact absurd n6 (by decide)
      · refine r_con (v := 0) cd_313_35 rfl (by decide) ?_
        exact r_ret cd_313_36 True.intro (by first | (simp [tAft, bz, n1, n5]; done) | (simp_all [tAft, bz]; done))
    · refine r_con (v := 0) cd_313_28 rfl (by decide) ?_
      refine r_cI (c_255 hM false false) cd_313_29 rfl rfl rfl (rc0 hM rfl) rfl rfl rfl ?_
      show RU _ _ _ (_, _, _, _, _, sw _ 226 (.inr (8, Mo (va_up s 15 0))))
      exact absurd (by simp [tAft, n1, n5]) g9
theorem b_312 {h : aH} {s w : Nat → Int} (hM : h.2.2 226 = .inr (8, Mo s)) (hw : h.2.2 227 = .inl (0, 211, .inl w)) (hI : Inv0 w) (x : Int) (hx : inR x) (n : Int) (hn : inR n) (g9 : ¬ tAft w x n = 0) : Ct 9 312 [aR 226, aI x, aI n] h (.inl (some (aI 0)), sw h 226 (.inr (8, Mo (va_up s 15 (tAft w x n))))) := by
  refine Ct.of [aR 226, aI x, aI n] rfl ?_
  refine r_aldR cd_312_0 rfl rfl ?_
  refine r_ild cd_312_1 rfl rfl ?_
  refine r_con (v := 0) cd_312_2 rfl (by decide) ?_
  refine r_ild cd_312_3 rfl rfl ?_
  refine r_cI (b_313 hM hw hI x hx 0 n hn g9) cd_312_4 rfl rfl rfl (rc0 hM rfl) rfl rfl rfl ?_
  exact r_ret cd_312_7 True.intro (rfl)
theorem b_316 {h : aH} {s w : Nat → Int} (hM : h.2.2 226 = .inr (8, Mo s)) (hw : h.2.2 227 = .inl (0, 211, .inl w)) (hI : Inv0 w) (x : Int) (hx : inR x) (n : Int) (hn : inR n) (g9 : ¬ tAft w x n = 0) : Ct 9 316 [aR 226, aI x, aI n] h (.inl (some (aI 0)), sw h 226 (.inr (8, Mo (va_up s 15 (tAft w x n))))) := by
  refine Ct.of [aR 226, aI x, aI n] rfl ?_
  refine r_aldR cd_316_0 rfl rfl ?_
  refine r_ild cd_316_1 rfl rfl ?_
  refine r_con (v := 3) cd_316_2 rfl (by decide) ?_
  refine r_ild cd_316_3 rfl rfl ?_
  refine r_cI (b_313 hM hw hI x hx 3 n hn g9) cd_316_4 rfl rfl rfl (rc0 hM rfl) rfl rfl rfl ?_
  exact r_ret cd_316_7 True.intro (rfl)
theorem lp_317 {s : Nat → Int} {res : aRes} (b : Nat) : ∀ (m n : Nat) {h : aH} {w : Nat → Int}, h.2.2 226 = .inr (8, Mo s) → h.2.2 227 = .inl (0, 211, .inl w) → Inv0 w → b < nB w → n + m = 200 → w 1 + m ≤ 100000 → RU 8 317 res (69, [aR 226, aI ((b : Nat) : Int), aI ((sinkF b m w ((n : Nat) : Int)).2), aU], [], 0, 0, sw h 227 (.inl (0, 211, .inl (sinkF b m w ((n : Nat) : Int)).1))) → RU 8 317 res (40, [aR 226, aI ((b : Nat) : Int), aI ((n : Nat) : Int), aU], [], 0, 0, h) := by
  intro m
  induction m with
  | zero =>
    intro n h w hM hw hI hc hm hh hk
    have hbn := hI.bNe
    have hpn := hI.pNe
    have x0 := hI.len
    have x1 := hI.hour
    have x2 := hI.gas
    have x3 := hI.leak
    have x4 := hI.gn
    have x5 := hI.bn
    have x6 := hI.pn
    refine r_ild cd_317_40 rfl rfl ?_
    refine r_con (v := 200) cd_317_41 rfl (by decide) ?_
    refine r_ic64 cd_317_44 rfl ⟨by omega, by omega⟩ ⟨by omega, by omega⟩ (fun n1 => ?_) (fun n1 => ?_)
    · exact absurd n1 (by omega)
    · rw [sw_id (show h.2.2 227 = .inl (0, 211, .inl (sinkF b 0 w ((n : Nat) : Int)).1) from hw)] at hk
      exact hk
  | succ m ih =>
    intro n h w hM hw hI hc hm hh hk
    have hbn := hI.bNe
    have hpn := hI.pNe
    have x0 := hI.len
    have x1 := hI.hour
    have x2 := hI.gas
    have x3 := hI.leak
    have x4 := hI.gn
    have x5 := hI.bn
    have x6 := hI.pn
    refine r_ild cd_317_40 rfl rfl ?_
    refine r_con (v := 200) cd_317_41 rfl (by decide) ?_
    refine r_ic64 cd_317_44 rfl ⟨by omega, by omega⟩ ⟨by omega, by omega⟩ (fun n1 => ?_) (fun n1 => ?_)
    · refine r_aldR cd_317_47 rfl rfl ?_
      refine r_ild cd_317_48 rfl rfl ?_
      refine r_con (v := 3) cd_317_49 rfl (by decide) ?_
      refine r_cI (c_209 hM hw b 3 (by omega)) cd_317_50 rfl rfl rfl (rc0 hM rfl) rfl rfl rfl ?_
      refine r_con (v := 1) cd_317_53 rfl (by decide) ?_
      refine r_ic62 cd_317_54 rfl (hI.boR (by omega) (by omega)) ⟨by omega, by omega⟩ (fun n2 => ?_) (fun n2 => ?_)
      · refine r_aldR cd_317_57 rfl rfl ?_
        refine r_con (v := 1) cd_317_58 rfl (by decide) ?_
        refine r_cI (c_241 hM hw hI 1 (by omega) (by omega)) cd_317_59 rfl rfl rfl (rc0 hM rfl) rfl rfl rfl ?_
        show RU _ _ _ (_, _, _, _, _, sw _ 227 (.inl (0, 211, .inl (hrW w))))
        refine r_pop cd_317_62 rfl rfl ?_
        refine r_inc (v := ((n + 1 : Nat) : Int)) cd_317_63 rfl rfl rfl (by omega) (L' := [aR 226, aI ((b : Nat) : Int), aI ((n + 1 : Nat) : Int), aU]) rfl ?_
        refine r_goto cd_317_66 ?_
        have hH := hr_inv hI (by omega)
        have hH1 := hH.2 1 (by omega) (by omega)
        rw [if_pos rfl] at hH1
        have eb : nB (hrW w) = nB w := by unfold nB; rw [hH.2 5 (by omega) (by omega), if_neg (by omega)]
        have ep : nP (hrW w) = nP w := by unfold nP; rw [hH.2 6 (by omega) (by omega), if_neg (by omega)]
        have e9 : sinkF b (m + 1) w ((n : Nat) : Int) = sinkF b m (hrW w) ((n + 1 : Nat) : Int) := by simp [sinkF, n1, n2]
        rw [e9] at hk
        refine ih (n + 1) (h := sw h 227 (.inl (0, 211, .inl (hrW w)))) (w := hrW w) ((sw_ne (by decide)).trans hM) (sw_at _ _ _) hH.1 (by omega) (by omega) (by rw [hH1]; omega) ?_
        rw [sw_sw]
        exact hk
      · rw [show sinkF b (m + 1) w ((n : Nat) : Int) = (w, ((n : Nat) : Int)) by simp [sinkF, n1, n2], sw_id hw] at hk
        exact hk
    · exact absurd n1 (by omega)
theorem sinkF_inv {b : Nat} : ∀ {m : Nat} {w : Nat → Int} {n : Int}, Inv0 w → w 1 + m ≤ 100000 → Inv0 (sinkF b m w n).1 ∧ nB (sinkF b m w n).1 = nB w ∧ nP (sinkF b m w n).1 = nP w
  | 0, w, n, hI, _ => ⟨hI, rfl, rfl⟩
  | m + 1, w, n, hI, hh => by
    rw [sinkF]
    split
    · have hH := hr_inv hI (by omega)
      have hH1 := hH.2 1 (by omega) (by omega)
      rw [if_pos rfl] at hH1
      obtain ⟨h1, h2, h3⟩ := sinkF_inv (b := b) (m := m) (n := n + 1) hH.1 (by rw [hH1]; omega)
      refine ⟨h1, h2.trans ?_, h3.trans ?_⟩
      · unfold nB; rw [hH.2 5 (by omega) (by omega), if_neg (by omega)]
      · unfold nP; rw [hH.2 6 (by omega) (by omega), if_neg (by omega)]
    · exact ⟨hI, rfl, rfl⟩
theorem destF_inv {p : Nat} : ∀ {m : Nat} {w : Nat → Int} {n : Int}, Inv0 w → w 1 + m ≤ 100000 → Inv0 (destF p m w n).1 ∧ nB (destF p m w n).1 = nB w ∧ nP (destF p m w n).1 = nP w
  | 0, w, n, hI, _ => ⟨hI, rfl, rfl⟩
  | m + 1, w, n, hI, hh => by
    rw [destF]
    split
    · exact ⟨hI, rfl, rfl⟩
    · have hH := hr_inv hI (by omega)
      have hH1 := hH.2 1 (by omega) (by omega)
      rw [if_pos rfl] at hH1
      obtain ⟨h1, h2, h3⟩ := destF_inv (p := p) (m := m) (n := n + 1) hH.1 (by rw [hH1]; omega)
      refine ⟨h1, h2.trans ?_, h3.trans ?_⟩
      · unfold nB; rw [hH.2 5 (by omega) (by omega), if_neg (by omega)]
      · unfold nP; rw [hH.2 6 (by omega) (by omega), if_neg (by omega)]
theorem c_317 {h : aH} {s w : Nat → Int} (hM : h.2.2 226 = .inr (8, Mo s)) (hw : h.2.2 227 = .inl (0, 211, .inl w)) (hI : Inv0 w) {as : Nat → Int} (ha : h.2.2 229 = .inl (0, 211, .inl as)) (b : Nat) (g0 : b < nB w) (g1 : w 1 ≤ 1000) (g2 : bo w b 3 = 1) : Ct 8 317 [aR 226, aI ((b : Nat) : Int)] h (.inl (some (aI (sinkN w b))), sw (sw h 226 (.inr (8, Mo (va_up s 15 0)))) 229 (.inl (0, 211, .inl (cpF w 0 0 0 211 as)))) := by
  refine Ct.of [aR 226, aI ((b : Nat) : Int), aU, aU] rfl ?_
  have hbn := hI.bNe
  have hpn := hI.pNe
  have x0 := hI.len
  have x1 := hI.hour
  have x2 := hI.gas
  have x3 := hI.leak
  have x4 := hI.gn
  have x5 := hI.bn
  have x6 := hI.pn
  have e1 : isBa w ((b : Nat) : Int) = true := isBa_iff.mpr (by omega)
  have hS := sinkF_inv (b := b) (m := 200) (n := ((0 : Nat) : Int)) hI (by omega)
  refine r_aldR cd_317_0 rfl rfl ?_
  refine r_aldR cd_317_1 rfl rfl ?_
  refine r_ild cd_317_2 rfl rfl ?_
  refine r_cI (c_265 hM hw hI ((b : Nat) : Int) ⟨by omega, by omega⟩) cd_317_3 rfl rfl rfl (rc0 hM rfl) rfl rfl rfl ?_
  refine r_if52b cd_317_6 rfl (fun n1 => ?_) (fun n1 => ?_)
  · exact Bool.noConfusion (n1.symm.trans e1)
  · refine r_con (v := 0) cd_317_13 rfl (by decide) ?_
    refine r_cI (c_250 hM false) cd_317_14 rfl rfl rfl (rc0 hM rfl) rfl rfl rfl ?_
    show RU _ _ _ (_, _, _, _, _, sw _ 226 (.inr (8, Mo (va_up s 15 0))))
    refine r_if51b cd_317_17 rfl (fun n2 => ?_) (fun n2 => ?_)
    · refine r_aldR cd_317_22 rfl rfl ?_
      refine r_ild cd_317_23 rfl rfl ?_
      refine r_con (v := 3) cd_317_24 rfl (by decide) ?_
      refine r_cI (c_209 (sw_at _ _ _) ((sw_ne (by decide)).trans hw) b 3 (by omega)) cd_317_25 rfl rfl rfl (rc0 (sw_at _ _ _) rfl) rfl rfl rfl ?_
      refine r_con (v := 1) cd_317_28 rfl (by decide) ?_
      refine r_ic61 cd_317_29 rfl (hI.boR (by omega) (by omega)) ⟨by omega, by omega⟩ (fun n3 => ?_) (fun n3 => ?_)
      · refine r_aldR cd_317_34 rfl rfl ?_
        refine r_cV (c_314 (sw_at _ _ _) ((sw_ne (by decide)).trans hw) ((sw_ne (by decide)).trans ha)) cd_317_35 rfl rfl rfl (rc0 (sw_at _ _ _) rfl) rfl rfl rfl ?_
        refine r_con (v := 0) cd_317_38 rfl (by decide) ?_
        refine r_ist cd_317_39 rfl rfl (L' := [aR 226, aI ((b : Nat) : Int), aI 0, aU]) rfl ?_
        refine lp_317 b 200 0 ((sw_ne (by decide)).trans (sw_at _ _ _)) ((sw_ne (by decide)).trans ((sw_ne (by decide)).trans hw)) hI g0 (by omega) (by omega) ?_
        refine r_aldR cd_317_69 rfl rfl ?_
        refine r_ild cd_317_70 rfl rfl ?_
        refine r_con (v := 3) cd_317_71 rfl (by decide) ?_
        refine r_cI (c_209 ((sw_ne (by decide)).trans ((sw_ne (by decide)).trans (sw_at _ _ _))) (sw_at _ _ _) b 3 (by omega)) cd_317_72 rfl rfl rfl (rc0 ((sw_ne (by decide)).trans ((sw_ne (by decide)).trans (sw_at _ _ _))) rfl) rfl rfl rfl ?_
        refine r_if52 cd_317_75 rfl (hS.1.boR (by omega) (by omega)) (fun n4 => ?_) (fun n4 => ?_)
        · refine r_con (v := 1) cd_317_78 rfl (by decide) ?_
          refine r_goto cd_317_79 ?_
          refine r_ist cd_317_83 rfl rfl (L' := [aR 226, aI ((b : Nat) : Int), aI ((sinkF b 200 w ((0 : Nat) : Int)).2), aI 1]) rfl ?_
          refine r_aldR cd_317_84 rfl rfl ?_
          refine r_cV (c_315 ((sw_ne (by decide)).trans ((sw_ne (by decide)).trans (sw_at _ _ _))) ((sw_ne (by decide)).trans (sw_at _ _ _)) (sw_at _ _ _)) cd_317_85 rfl rfl rfl (rc0 ((sw_ne (by decide)).trans ((sw_ne (by decide)).trans (sw_at _ _ _))) rfl) rfl rfl rfl ?_
          rw [sw_sw]
          refine r_ild cd_317_88 rfl rfl ?_
          refine r_if51 cd_317_89 rfl ⟨by omega, by omega⟩ (fun n5 => ?_) (fun n5 => ?_)
          · exact absurd n5 (by decide)
          · refine r_ild cd_317_92 rfl rfl ?_
            refine r_goto cd_317_93 ?_
            exact r_ret cd_317_97 True.intro (by rw [cp_back (w := w) (fun j hj => cp_to hj) hI.tail hS.1.tail, sw_id ((sw_ne (by decide)).trans ((sw_ne (by decide)).trans hw))]; simp_all [sinkN, bz])
        · refine r_con (v := 0) cd_317_82 rfl (by decide) ?_
          refine r_ist cd_317_83 rfl rfl (L' := [aR 226, aI ((b : Nat) : Int), aI ((sinkF b 200 w ((0 : Nat) : Int)).2), aI 0]) rfl ?_
          refine r_aldR cd_317_84 rfl rfl ?_
          refine r_cV (c_315 ((sw_ne (by decide)).trans ((sw_ne (by decide)).trans (sw_at _ _ _))) ((sw_ne (by decide)).trans (sw_at _ _ _)) (sw_at _ _ _)) cd_317_85 rfl rfl rfl (rc0 ((sw_ne (by decide)).trans ((sw_ne (by decide)).trans (sw_at _ _ _))) rfl) rfl rfl rfl ?_
          rw [sw_sw]
          refine r_ild cd_317_88 rfl rfl ?_
          refine r_if51 cd_317_89 rfl ⟨by omega, by omega⟩ (fun n6 => ?_) (fun n6 => ?_)
          · refine r_con (v := (-1)) cd_317_96 rfl (by decide) ?_
            exact r_ret cd_317_97 True.intro (by rw [cp_back (w := w) (fun j hj => cp_to hj) hI.tail hS.1.tail, sw_id ((sw_ne (by decide)).trans ((sw_ne (by decide)).trans hw))]; simp_all [sinkN, bz])
          · exact absurd n6 (by decide)
      · exact absurd g2 n3
    · exact absurd n2 (by decide)
theorem d_317 {h : aH} {s w : Nat → Int} (hM : h.2.2 226 = .inr (8, Mo s)) (hw : h.2.2 227 = .inl (0, 211, .inl w)) (hI : Inv0 w) (b : Nat) (g0 : b < nB w) (g1 : ¬ bo w b 3 = 1) : Ct 8 317 [aR 226, aI ((b : Nat) : Int)] h (.inl (some (aI (sinkN w b))), sw h 226 (.inr (8, Mo (va_up s 15 (0))))) := by
  refine Ct.of [aR 226, aI ((b : Nat) : Int), aU, aU] rfl ?_
  have hbn := hI.bNe
  have hpn := hI.pNe
  have x0 := hI.len
  have x1 := hI.hour
  have x2 := hI.gas
  have x3 := hI.leak
  have x4 := hI.gn
  have x5 := hI.bn
  have x6 := hI.pn
  have e1 : isBa w ((b : Nat) : Int) = true := isBa_iff.mpr (by omega)
  refine r_aldR cd_317_0 rfl rfl ?_
  refine r_aldR cd_317_1 rfl rfl ?_
  refine r_ild cd_317_2 rfl rfl ?_
  refine r_cI (c_265 hM hw hI ((b : Nat) : Int) ⟨by omega, by omega⟩) cd_317_3 rfl rfl rfl (rc0 hM rfl) rfl rfl rfl ?_
  refine r_if52b cd_317_6 rfl (fun n1 => ?_) (fun n1 => ?_)
  · exact Bool.noConfusion (n1.symm.trans e1)
  · refine r_con (v := 0) cd_317_13 rfl (by decide) ?_
    refine r_cI (c_250 hM false) cd_317_14 rfl rfl rfl (rc0 hM rfl) rfl rfl rfl ?_
    show RU _ _ _ (_, _, _, _, _, sw _ 226 (.inr (8, Mo (va_up s 15 0))))
    refine r_if51b cd_317_17 rfl (fun n2 => ?_) (fun n2 => ?_)
    · refine r_aldR cd_317_22 rfl rfl ?_
      refine r_ild cd_317_23 rfl rfl ?_
      refine r_con (v := 3) cd_317_24 rfl (by decide) ?_
      refine r_cI (c_209 (sw_at _ _ _) ((sw_ne (by decide)).trans hw) b 3 (by omega)) cd_317_25 rfl rfl rfl (rc0 (sw_at _ _ _) rfl) rfl rfl rfl ?_
      refine r_con (v := 1) cd_317_28 rfl (by decide) ?_
      refine r_ic61 cd_317_29 rfl (hI.boR (by omega) (by omega)) ⟨by omega, by omega⟩ (fun n3 => ?_) (fun n3 => ?_)
      · exact absurd n3 g1
      · refine r_con (v := (-1)) cd_317_32 rfl (by decide) ?_
        exact r_ret cd_317_33 True.intro (by simp [sinkN, g1, bz])
    · exact absurd n2 (by decide)
theorem b_317 {h : aH} {s w : Nat → Int} (hM : h.2.2 226 = .inr (8, Mo s)) (hw : h.2.2 227 = .inl (0, 211, .inl w)) (hI : Inv0 w) (x : Int) (hx : inR x) (g9 : ¬ tBa w x = 0) : Ct 8 317 [aR 226, aI x] h (.inl (some (aI 0)), sw h 226 (.inr (8, Mo (va_up s 15 (tBa w x))))) := by
  refine Ct.of [aR 226, aI x, aU, aU] rfl ?_
  have hbn := hI.bNe
  have hpn := hI.pNe
  have x0 := hI.len
  have x1 := hI.hour
  have x2 := hI.gas
  have x3 := hI.leak
  have x4 := hI.gn
  have x5 := hI.bn
  have x6 := hI.pn
  refine r_aldR cd_317_0 rfl rfl ?_
  refine r_aldR cd_317_1 rfl rfl ?_
  refine r_ild cd_317_2 rfl rfl ?_
  refine r_cI (c_265 hM hw hI x hx) cd_317_3 rfl rfl rfl (rc0 hM rfl) rfl rfl rfl ?_
  refine r_if52b cd_317_6 rfl (fun n1 => ?_) (fun n1 => ?_)
  · refine r_con (v := 1) cd_317_9 rfl (by decide) ?_
    refine r_goto cd_317_10 ?_
    refine r_cI (c_250 hM true) cd_317_14 rfl rfl rfl (rc0 hM rfl) rfl rfl rfl ?_
    refine r_if51b cd_317_17 rfl (fun n2 => ?_) (fun n2 => ?_)
    · exact absurd n2 (by decide)
    · refine r_con (v := 0) cd_317_20 rfl (by decide) ?_
      exact r_ret cd_317_21 True.intro (by first | (simp [tBa, bz, n1]; done) | (simp_all [tBa, bz]; done))
  · refine r_con (v := 0) cd_317_13 rfl (by decide) ?_
    refine r_cI (c_250 hM false) cd_317_14 rfl rfl rfl (rc0 hM rfl) rfl rfl rfl ?_
    show RU _ _ _ (_, _, _, _, _, sw _ 226 (.inr (8, Mo (va_up s 15 0))))
    exact absurd (by simp [tBa, n1]) g9
theorem plOf_b {w : Nat → Int} (hI : Inv0 w) {p : Nat} (hp : p < nP w) : -1 ≤ plOf w p ∧ plOf w p ≤ 30 := by
  have h1 := (hI.ps p hp).2.2.2.2
  have h2 := hI.len
  have h3 := hI.bNe
  unfold plOf
  split
  · omega
  · split
    · have h4 := (hI.bs (pa w p 5).toNat (by omega)).1
      omega
    · omega
theorem lp_318 {s : Nat → Int} {res : aRes} (p : Nat) : ∀ (m n : Nat) {h : aH} {w : Nat → Int}, h.2.2 226 = .inr (8, Mo s) → h.2.2 227 = .inl (0, 211, .inl w) → Inv0 w → p < nP w → n + m = 48 → w 1 + m ≤ 100000 → RU 8 318 res (72, [aR 226, aI ((p : Nat) : Int), aI ((destF p m w ((n : Nat) : Int)).2), aU], [], 0, 0, sw h 227 (.inl (0, 211, .inl (destF p m w ((n : Nat) : Int)).1))) → RU 8 318 res (40, [aR 226, aI ((p : Nat) : Int), aI ((n : Nat) : Int), aU], [], 0, 0, h) := by
  intro m
  induction m with
  | zero =>
    intro n h w hM hw hI hc hm hh hk
    have hbn := hI.bNe
    have hpn := hI.pNe
    have x0 := hI.len
    have x1 := hI.hour
    have x2 := hI.gas
    have x3 := hI.leak
    have x4 := hI.gn
    have x5 := hI.bn
    have x6 := hI.pn
    refine r_ild cd_318_40 rfl rfl ?_
    refine r_con (v := 48) cd_318_41 rfl (by decide) ?_
    refine r_ic64 cd_318_43 rfl ⟨by omega, by omega⟩ ⟨by omega, by omega⟩ (fun n1 => ?_) (fun n1 => ?_)
    · exact absurd n1 (by omega)
    · rw [sw_id (show h.2.2 227 = .inl (0, 211, .inl (destF p 0 w ((n : Nat) : Int)).1) from hw)] at hk
      exact hk
  | succ m ih =>
    intro n h w hM hw hI hc hm hh hk
    have hbn := hI.bNe
    have hpn := hI.pNe
    have x0 := hI.len
    have x1 := hI.hour
    have x2 := hI.gas
    have x3 := hI.leak
    have x4 := hI.gn
    have x5 := hI.bn
    have x6 := hI.pn
    refine r_ild cd_318_40 rfl rfl ?_
    refine r_con (v := 48) cd_318_41 rfl (by decide) ?_
    refine r_ic64 cd_318_43 rfl ⟨by omega, by omega⟩ ⟨by omega, by omega⟩ (fun n1 => ?_) (fun n1 => ?_)
    · refine r_aldR cd_318_46 rfl rfl ?_
      refine r_ild cd_318_47 rfl rfl ?_
      refine r_cI (c_305 hM hw hI p (by omega)) cd_318_48 rfl rfl rfl (rc0 hM rfl) rfl rfl rfl ?_
      refine r_aldR cd_318_51 rfl rfl ?_
      refine r_ild cd_318_52 rfl rfl ?_
      refine r_con (v := 2) cd_318_53 rfl (by decide) ?_
      refine r_cI (c_203 hM hw p 2 (by omega)) cd_318_54 rfl rfl rfl (rc0 hM rfl) rfl rfl rfl ?_
      refine r_ic61 cd_318_57 rfl (inR_of (plOf_b hI (p := p) (by omega)) (by decide) (by decide)) (hI.paR (by omega) (by omega)) (fun n2 => ?_) (fun n2 => ?_)
      · rw [show destF p (m + 1) w ((n : Nat) : Int) = (w, ((n : Nat) : Int)) by simp [destF, n1, n2], sw_id hw] at hk
        exact hk
      · refine r_aldR cd_318_60 rfl rfl ?_
        refine r_con (v := 1) cd_318_61 rfl (by decide) ?_
        refine r_cI (c_241 hM hw hI 1 (by omega) (by omega)) cd_318_62 rfl rfl rfl (rc0 hM rfl) rfl rfl rfl ?_
        show RU _ _ _ (_, _, _, _, _, sw _ 227 (.inl (0, 211, .inl (hrW w))))
        refine r_pop cd_318_65 rfl rfl ?_
        refine r_inc (v := ((n + 1 : Nat) : Int)) cd_318_66 rfl rfl rfl (by omega) (L' := [aR 226, aI ((p : Nat) : Int), aI ((n + 1 : Nat) : Int), aU]) rfl ?_
        refine r_goto cd_318_69 ?_
        have hH := hr_inv hI (by omega)
        have hH1 := hH.2 1 (by omega) (by omega)
        rw [if_pos rfl] at hH1
        have eb : nB (hrW w) = nB w := by unfold nB; rw [hH.2 5 (by omega) (by omega), if_neg (by omega)]
        have ep : nP (hrW w) = nP w := by unfold nP; rw [hH.2 6 (by omega) (by omega), if_neg (by omega)]
        have e9 : destF p (m + 1) w ((n : Nat) : Int) = destF p m (hrW w) ((n + 1 : Nat) : Int) := by simp [destF, n1, n2]
        rw [e9] at hk
        refine ih (n + 1) (h := sw h 227 (.inl (0, 211, .inl (hrW w)))) (w := hrW w) ((sw_ne (by decide)).trans hM) (sw_at _ _ _) hH.1 (by omega) (by omega) (by rw [hH1]; omega) ?_
        rw [sw_sw]
        exact hk
    · exact absurd n1 (by omega)
theorem c_318 {h : aH} {s w : Nat → Int} (hM : h.2.2 226 = .inr (8, Mo s)) (hw : h.2.2 227 = .inl (0, 211, .inl w)) (hI : Inv0 w) {as : Nat → Int} (ha : h.2.2 229 = .inl (0, 211, .inl as)) (p : Nat) (g0 : p < nP w) (g1 : w 1 ≤ 1000) (g2 : ¬ pa w p 4 = 2) : Ct 8 318 [aR 226, aI ((p : Nat) : Int)] h (.inl (some (aI (destN w p))), sw (sw h 226 (.inr (8, Mo (va_up s 15 0)))) 229 (.inl (0, 211, .inl (cpF w 0 0 0 211 as)))) := by
  refine Ct.of [aR 226, aI ((p : Nat) : Int), aU, aU] rfl ?_
  have hbn := hI.bNe
  have hpn := hI.pNe
  have x0 := hI.len
  have x1 := hI.hour
  have x2 := hI.gas
  have x3 := hI.leak
  have x4 := hI.gn
  have x5 := hI.bn
  have x6 := hI.pn
  have e1 : isPa w ((p : Nat) : Int) = true := isPa_iff.mpr (by omega)
  have hS := destF_inv (p := p) (m := 48) (n := ((0 : Nat) : Int)) hI (by omega)
  refine r_aldR cd_318_0 rfl rfl ?_
  refine r_aldR cd_318_1 rfl rfl ?_
  refine r_ild cd_318_2 rfl rfl ?_
  refine r_cI (c_264 hM hw hI ((p : Nat) : Int) ⟨by omega, by omega⟩) cd_318_3 rfl rfl rfl (rc0 hM rfl) rfl rfl rfl ?_
  refine r_if52b cd_318_6 rfl (fun n1 => ?_) (fun n1 => ?_)
  · exact Bool.noConfusion (n1.symm.trans e1)
  · refine r_con (v := 0) cd_318_13 rfl (by decide) ?_
    refine r_cI (c_250 hM false) cd_318_14 rfl rfl rfl (rc0 hM rfl) rfl rfl rfl ?_
    show RU _ _ _ (_, _, _, _, _, sw _ 226 (.inr (8, Mo (va_up s 15 0))))
    refine r_if51b cd_318_17 rfl (fun n2 => ?_) (fun n2 => ?_)
    · refine r_aldR cd_318_22 rfl rfl ?_
      refine r_ild cd_318_23 rfl rfl ?_
      refine r_con (v := 4) cd_318_24 rfl (by decide) ?_
      refine r_cI (c_203 (sw_at _ _ _) ((sw_ne (by decide)).trans hw) p 4 (by omega)) cd_318_25 rfl rfl rfl (rc0 (sw_at _ _ _) rfl) rfl rfl rfl ?_
      refine r_con (v := 2) cd_318_28 rfl (by decide) ?_
      refine r_ic62 cd_318_29 rfl (hI.paR (by omega) (by omega)) ⟨by omega, by omega⟩ (fun n3 => ?_) (fun n3 => ?_)
      · exact absurd n3 g2
      · refine r_aldR cd_318_34 rfl rfl ?_
        refine r_cV (c_314 (sw_at _ _ _) ((sw_ne (by decide)).trans hw) ((sw_ne (by decide)).trans ha)) cd_318_35 rfl rfl rfl (rc0 (sw_at _ _ _) rfl) rfl rfl rfl ?_
        refine r_con (v := 0) cd_318_38 rfl (by decide) ?_
        refine r_ist cd_318_39 rfl rfl (L' := [aR 226, aI ((p : Nat) : Int), aI 0, aU]) rfl ?_
        refine lp_318 p 48 0 ((sw_ne (by decide)).trans (sw_at _ _ _)) ((sw_ne (by decide)).trans ((sw_ne (by decide)).trans hw)) hI g0 (by omega) (by omega) ?_
        refine r_aldR cd_318_72 rfl rfl ?_
        refine r_ild cd_318_73 rfl rfl ?_
        refine r_cI (c_305 ((sw_ne (by decide)).trans ((sw_ne (by decide)).trans (sw_at _ _ _))) (sw_at _ _ _) hS.1 p (by omega)) cd_318_74 rfl rfl rfl (rc0 ((sw_ne (by decide)).trans ((sw_ne (by decide)).trans (sw_at _ _ _))) rfl) rfl rfl rfl ?_
        refine r_aldR cd_318_77 rfl rfl ?_
        refine r_ild cd_318_78 rfl rfl ?_
        refine r_con (v := 2) cd_318_79 rfl (by decide) ?_
        refine r_cI (c_203 ((sw_ne (by decide)).trans ((sw_ne (by decide)).trans (sw_at _ _ _))) (sw_at _ _ _) p 2 (by omega)) cd_318_80 rfl rfl rfl (rc0 ((sw_ne (by decide)).trans ((sw_ne (by decide)).trans (sw_at _ _ _))) rfl) rfl rfl rfl ?_
        refine r_ic62 cd_318_83 rfl (inR_of (plOf_b hS.1 (p := p) (by omega)) (by decide) (by decide)) (hS.1.paR (by omega) (by omega)) (fun n4 => ?_) (fun n4 => ?_)
        · refine r_con (v := 1) cd_318_86 rfl (by decide) ?_
          refine r_goto cd_318_87 ?_
          refine r_ist cd_318_91 rfl rfl (L' := [aR 226, aI ((p : Nat) : Int), aI ((destF p 48 w ((0 : Nat) : Int)).2), aI 1]) rfl ?_
          refine r_aldR cd_318_92 rfl rfl ?_
          refine r_cV (c_315 ((sw_ne (by decide)).trans ((sw_ne (by decide)).trans (sw_at _ _ _))) ((sw_ne (by decide)).trans (sw_at _ _ _)) (sw_at _ _ _)) cd_318_93 rfl rfl rfl (rc0 ((sw_ne (by decide)).trans ((sw_ne (by decide)).trans (sw_at _ _ _))) rfl) rfl rfl rfl ?_
          rw [sw_sw]
          refine r_ild cd_318_96 rfl rfl ?_
          refine r_if51 cd_318_97 rfl ⟨by omega, by omega⟩ (fun n5 => ?_) (fun n5 => ?_)
          · exact absurd n5 (by decide)
          · refine r_ild cd_318_100 rfl rfl ?_
            refine r_goto cd_318_101 ?_
            exact r_ret cd_318_105 True.intro (by rw [cp_back (w := w) (fun j hj => cp_to hj) hI.tail hS.1.tail, sw_id ((sw_ne (by decide)).trans ((sw_ne (by decide)).trans hw))]; simp_all [destN, bz])
        · refine r_con (v := 0) cd_318_90 rfl (by decide) ?_
          refine r_ist cd_318_91 rfl rfl (L' := [aR 226, aI ((p : Nat) : Int), aI ((destF p 48 w ((0 : Nat) : Int)).2), aI 0]) rfl ?_
          refine r_aldR cd_318_92 rfl rfl ?_
          refine r_cV (c_315 ((sw_ne (by decide)).trans ((sw_ne (by decide)).trans (sw_at _ _ _))) ((sw_ne (by decide)).trans (sw_at _ _ _)) (sw_at _ _ _)) cd_318_93 rfl rfl rfl (rc0 ((sw_ne (by decide)).trans ((sw_ne (by decide)).trans (sw_at _ _ _))) rfl) rfl rfl rfl ?_
          rw [sw_sw]
          refine r_ild cd_318_96 rfl rfl ?_
          refine r_if51 cd_318_97 rfl ⟨by omega, by omega⟩ (fun n6 => ?_) (fun n6 => ?_)
          · refine r_con (v := (-1)) cd_318_104 rfl (by decide) ?_
            exact r_ret cd_318_105 True.intro (by rw [cp_back (w := w) (fun j hj => cp_to hj) hI.tail hS.1.tail, sw_id ((sw_ne (by decide)).trans ((sw_ne (by decide)).trans hw))]; simp_all [destN, bz])
          · exact absurd n6 (by decide)
    · exact absurd n2 (by decide)
theorem d_318 {h : aH} {s w : Nat → Int} (hM : h.2.2 226 = .inr (8, Mo s)) (hw : h.2.2 227 = .inl (0, 211, .inl w)) (hI : Inv0 w) (p : Nat) (g0 : p < nP w) (g1 : pa w p 4 = 2) : Ct 8 318 [aR 226, aI ((p : Nat) : Int)] h (.inl (some (aI (destN w p))), sw h 226 (.inr (8, Mo (va_up s 15 (0))))) := by
  refine Ct.of [aR 226, aI ((p : Nat) : Int), aU, aU] rfl ?_
  have hbn := hI.bNe
  have hpn := hI.pNe
  have x0 := hI.len
  have x1 := hI.hour
  have x2 := hI.gas
  have x3 := hI.leak
  have x4 := hI.gn
  have x5 := hI.bn
  have x6 := hI.pn
  have e1 : isPa w ((p : Nat) : Int) = true := isPa_iff.mpr (by omega)
  refine r_aldR cd_318_0 rfl rfl ?_
  refine r_aldR cd_318_1 rfl rfl ?_
  refine r_ild cd_318_2 rfl rfl ?_
  refine r_cI (c_264 hM hw hI ((p : Nat) : Int) ⟨by omega, by omega⟩) cd_318_3 rfl rfl rfl (rc0 hM rfl) rfl rfl rfl ?_
  refine r_if52b cd_318_6 rfl (fun n1 => ?_) (fun n1 => ?_)
  · exact Bool.noConfusion (n1.symm.trans e1)
  · refine r_con (v := 0) cd_318_13 rfl (by decide) ?_
    refine r_cI (c_250 hM false) cd_318_14 rfl rfl rfl (rc0 hM rfl) rfl rfl rfl ?_
    show RU _ _ _ (_, _, _, _, _, sw _ 226 (.inr (8, Mo (va_up s 15 0))))
    refine r_if51b cd_318_17 rfl (fun n2 => ?_) (fun n2 => ?_)
    · refine r_aldR cd_318_22 rfl rfl ?_
      refine r_ild cd_318_23 rfl rfl ?_
      refine r_con (v := 4) cd_318_24 rfl (by decide) ?_
      refine r_cI (c_203 (sw_at _ _ _) ((sw_ne (by decide)).trans hw) p 4 (by omega)) cd_318_25 rfl rfl rfl (rc0 (sw_at _ _ _) rfl) rfl rfl rfl ?_
      refine r_con (v := 2) cd_318_28 rfl (by decide) ?_
      refine r_ic62 cd_318_29 rfl (hI.paR (by omega) (by omega)) ⟨by omega, by omega⟩ (fun n3 => ?_) (fun n3 => ?_)
      · refine r_con (v := (-1)) cd_318_32 rfl (by decide) ?_
        exact r_ret cd_318_33 True.intro (by simp [destN, g1, bz])
      · exact absurd g1 n3
    · exact absurd n2 (by decide)
theorem b_318 {h : aH} {s w : Nat → Int} (hM : h.2.2 226 = .inr (8, Mo s)) (hw : h.2.2 227 = .inl (0, 211, .inl w)) (hI : Inv0 w) (x : Int) (hx : inR x) (g9 : ¬ tPa w x = 0) : Ct 8 318 [aR 226, aI x] h (.inl (some (aI 0)), sw h 226 (.inr (8, Mo (va_up s 15 (tPa w x))))) := by
  refine Ct.of [aR 226, aI x, aU, aU] rfl ?_
  have hbn := hI.bNe
  have hpn := hI.pNe
  have x0 := hI.len
  have x1 := hI.hour
  have x2 := hI.gas
  have x3 := hI.leak
  have x4 := hI.gn
  have x5 := hI.bn
  have x6 := hI.pn
  refine r_aldR cd_318_0 rfl rfl ?_
  refine r_aldR cd_318_1 rfl rfl ?_
  refine r_ild cd_318_2 rfl rfl ?_
  refine r_cI (c_264 hM hw hI x hx) cd_318_3 rfl rfl rfl (rc0 hM rfl) rfl rfl rfl ?_
  refine r_if52b cd_318_6 rfl (fun n1 => ?_) (fun n1 => ?_)
  · refine r_con (v := 1) cd_318_9 rfl (by decide) ?_
    refine r_goto cd_318_10 ?_
    refine r_cI (c_250 hM true) cd_318_14 rfl rfl rfl (rc0 hM rfl) rfl rfl rfl ?_
    refine r_if51b cd_318_17 rfl (fun n2 => ?_) (fun n2 => ?_)
    · exact absurd n2 (by decide)
    · refine r_con (v := 0) cd_318_20 rfl (by decide) ?_
      exact r_ret cd_318_21 True.intro (by first | (simp [tPa, bz, n1]; done) | (simp_all [tPa, bz]; done))
  · refine r_con (v := 0) cd_318_13 rfl (by decide) ?_
    refine r_cI (c_250 hM false) cd_318_14 rfl rfl rfl (rc0 hM rfl) rfl rfl rfl ?_
    show RU _ _ _ (_, _, _, _, _, sw _ 226 (.inr (8, Mo (va_up s 15 0))))
    exact absurd (by simp [tPa, n1]) g9
