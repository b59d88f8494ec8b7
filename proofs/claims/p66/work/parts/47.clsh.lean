/-! THE CLASS: changes of a World by calls (written by wip/whole/gen47.py) -/
theorem v_89 {h : aH} {B : Nat} {w : Nat → Int} (hR : Rp h B w) (hI : Inv0 w) (b : Nat) (g0 : b < nB w) : ∃ h', Ct 3 89 [aR B, aI ((b : Nat) : Int)] h (.inl (some (aI (hOf (sbo w b 3 1) b))), h') ∧ Rp h' B (sbo w b 3 1) ∧ Fr B h h' := by
  obtain ⟨c, W, A⟩ := id hR
  obtain ⟨o0, o1, o2, o3, o4, o5, o6, o7, o8, o9, o10, o11, o12, o13, o14, o15, o16, o17⟩ := id W
  obtain ⟨a0, a1, a2, a3, a4, a5, a6, a7, a8, a9, a10, a11, a12, a13, a14⟩ := id A
  have hbn := hI.bNe
  have hpn := hI.pNe
  have x0 := hI.len
  have x1 := hI.hour
  have x2 := hI.gas
  have x3 := hI.leak
  have x4 := hI.gn
  have x5 := hI.bn
  have x6 := hI.pn
  have hb0 := hI.bs b (by omega)
  have hI1 : Inv0 (sbo w b 3 1) := hI.setB (k := 3) g0 (by omega) (by omega) (by omega) (by omega) (by omega)
  have R1 : Rp (sw h (B + 9) (.inl (0, 8, .inl (va_up (c 6) b 1)))) B (sbo w b 3 1) := ⟨_, (W.s6 (f := va_up (c 6) b 1)).wk (fun j hj hn => sbo_lo (by omega)), A.sb (k := 3) hI (by omega) (by omega)⟩
  refine ⟨_, Ct.of [aR B, aI ((b : Nat) : Int)] rfl ?_, R1, (Fr.rf).sw (by omega) (by omega)⟩
  refine r_aldR cd_89_0 rfl rfl ?_
  refine r_get cd_89_1 rfl o0 rfl ?_
  refine r_get cd_89_4 rfl o5 rfl ?_
  refine r_ild cd_89_7 rfl rfl ?_
  refine r_con (v := 1) cd_89_8 rfl (by decide) ?_
  refine r_arsI (i := b) cd_89_9 rfl rfl o9 rfl (by omega) rfl ?_
  refine r_aldR cd_89_10 rfl rfl ?_
  refine r_ild cd_89_11 rfl rfl ?_
  refine r_cI (k_81 R1 hI1 b (by rw [sbo_bN]; exact g0)) cd_89_12 rfl rfl rfl (rc0 ((sw_ne (by omega)).trans o0) rfl) rfl rfl rfl ?_
  exact r_ret cd_89_15 True.intro (rfl)
theorem v_86 {h : aH} {B : Nat} {w : Nat → Int} (hR : Rp h B w) (hI : Inv0 w) (p : Nat) (b : Nat) (g0 : p < nP w) (g1 : b < nB w) (g2 : ¬ pa w p 4 = 2) : ∃ h', Ct 2 86 [aR B, aI ((p : Nat) : Int), aI ((b : Nat) : Int)] h (.inl (some (aI (loadOf (putP w p 1 ((b : Nat) : Int)) b))), h') ∧ Rp h' B (putP w p 1 ((b : Nat) : Int)) ∧ Fr B h h' := by
  obtain ⟨c, W, A⟩ := id hR
  obtain ⟨o0, o1, o2, o3, o4, o5, o6, o7, o8, o9, o10, o11, o12, o13, o14, o15, o16, o17⟩ := id W
  obtain ⟨a0, a1, a2, a3, a4, a5, a6, a7, a8, a9, a10, a11, a12, a13, a14⟩ := id A
  have hbn := hI.bNe
  have hpn := hI.pNe
  have x0 := hI.len
  have x1 := hI.hour
  have x2 := hI.gas
  have x3 := hI.leak
  have x4 := hI.gn
  have x5 := hI.bn
  have x6 := hI.pn
  have hb0 := hI.bs b (by omega)
  have hp0 := hI.ps p (by omega)
  have hI1 : Inv0 (putP w p 1 ((b : Nat) : Int)) := hI.setP g0 g2 (Or.inr (Or.inl ⟨rfl, by omega, by omega⟩))
  obtain ⟨h1, d1, R1, F1⟩ := v_24 hR hI p b g0
  obtain ⟨c1, W1, A1⟩ := id R1
  obtain ⟨p1_0, p1_1, p1_2, p1_3, p1_4, p1_5, p1_6, p1_7, p1_8, p1_9, p1_10, p1_11, p1_12, p1_13, p1_14, p1_15, p1_16, p1_17⟩ := id W1
  obtain ⟨q1_0, q1_1, q1_2, q1_3, q1_4, q1_5, q1_6, q1_7, q1_8, q1_9, q1_10, q1_11, q1_12, q1_13, q1_14⟩ := id A1
  refine ⟨h1, Ct.of [aR B, aI ((p : Nat) : Int), aI ((b : Nat) : Int)] rfl ?_, R1, F1⟩
  refine r_aldR cd_86_0 rfl rfl ?_
  refine r_get cd_86_1 rfl o0 rfl ?_
  refine r_ild cd_86_4 rfl rfl ?_
  refine r_ild cd_86_5 rfl rfl ?_
  refine r_cV d1 cd_86_6 rfl rfl rfl (rc0 o10 rfl) rfl rfl rfl ?_
  refine r_aldR cd_86_9 rfl rfl ?_
  refine r_get cd_86_10 rfl p1_0 rfl ?_
  refine r_ild cd_86_13 rfl rfl ?_
  refine r_cI (k_21 R1 hI1 b (by omega)) cd_86_14 rfl rfl rfl (rc0 p1_10 rfl) rfl rfl rfl ?_
  exact r_ret cd_86_17 True.intro (rfl)
theorem v_87 {h : aH} {B : Nat} {w : Nat → Int} (hR : Rp h B w) (hI : Inv0 w) (p : Nat) (g0 : p < nP w) (g1 : pa w p 4 = 1) : ∃ h', Ct 3 87 [aR B, aI ((p : Nat) : Int)] h (.inl (some (aI (pa w p 5))), h') ∧ Rp h' B (untW w p) ∧ Fr B h h' := by
  obtain ⟨c, W, A⟩ := id hR
  obtain ⟨o0, o1, o2, o3, o4, o5, o6, o7, o8, o9, o10, o11, o12, o13, o14, o15, o16, o17⟩ := id W
  obtain ⟨a0, a1, a2, a3, a4, a5, a6, a7, a8, a9, a10, a11, a12, a13, a14⟩ := id A
  have hbn := hI.bNe
  have hpn := hI.pNe
  have x0 := hI.len
  have x1 := hI.hour
  have x2 := hI.gas
  have x3 := hI.leak
  have x4 := hI.gn
  have x5 := hI.bn
  have x6 := hI.pn
  have hp0 := hI.ps p (by omega)
  have ec : carr w p = pa w p 5 := if_pos g1
  have ep : plOf w p = bo w (pa w p 5).toNat 0 := by unfold plOf; rw [if_neg (by omega), if_pos g1]
  obtain ⟨h1, d1, R1, F1⟩ := v_23 hR hI p (plOf w p) g0
  rw [ep] at R1
  refine ⟨h1, Ct.of [aR B, aI ((p : Nat) : Int), aU] rfl ?_, R1, F1⟩
  refine r_aldR cd_87_0 rfl rfl ?_
  refine r_get cd_87_1 rfl o0 rfl ?_
  refine r_get cd_87_4 rfl o10 rfl ?_
  refine r_ild cd_87_7 rfl rfl ?_
  refine r_arr (i := p) cd_87_8 rfl o16 rfl (by omega) rfl ?_
  rw [a12 p (by omega), ec]
  refine r_ist cd_87_9 rfl rfl (L' := [aR B, aI ((p : Nat) : Int), aI (pa w p 5)]) rfl ?_
  refine r_aldR cd_87_10 rfl rfl ?_
  refine r_get cd_87_11 rfl o0 rfl ?_
  refine r_ild cd_87_14 rfl rfl ?_
  refine r_aldR cd_87_15 rfl rfl ?_
  refine r_ild cd_87_16 rfl rfl ?_
  refine r_cI (k_88 hR hI p g0) cd_87_17 rfl rfl rfl (rc0 o0 rfl) rfl rfl rfl ?_
  refine r_cV d1 cd_87_20 rfl rfl rfl (rc0 o10 rfl) rfl rfl rfl ?_
  refine r_ild cd_87_23 rfl rfl ?_
  exact r_ret cd_87_24 True.intro (rfl)
theorem lw_93 {B b : Nat} : ∀ (m k : Nat) {h : aH} {w : Nat → Int}, Rp h B w → Inv0 w → b < nB w → k + m = 16 → knots w b ≤ m → ∃ h', (∀ t, RU 2 93 (.inl (some (aI (relF b (m + 1) w ((k : Nat) : Int)).2)), h') (11, [aR B, aI ((b : Nat) : Int), aI (loadOf w b), aI ((k : Nat) : Int), t], [], 0, 0, h)) ∧ Rp h' B (relF b (m + 1) w ((k : Nat) : Int)).1 ∧ Fr B h h' := by
  intro m
  induction m with
  | zero =>
    intro k h w hR hI hb hk hkn
    obtain ⟨c, W, A⟩ := id hR
    obtain ⟨o0, o1, o2, o3, o4, o5, o6, o7, o8, o9, o10, o11, o12, o13, o14, o15, o16, o17⟩ := id W
    obtain ⟨a0, a1, a2, a3, a4, a5, a6, a7, a8, a9, a10, a11, a12, a13, a14⟩ := id A
    have hbn := hI.bNe
    have hpn := hI.pNe
    have x0 := hI.len
    have x1 := hI.hour
    have x2 := hI.gas
    have x3 := hI.leak
    have x4 := hI.gn
    have x5 := hI.bn
    have x6 := hI.pn
    have hb0 := hI.bs b (by omega)
    have hl := knot0_load hkn
    have hs : 0 < spare w b := by unfold spare; omega
    rw [show relF b (0 + 1) w ((k : Nat) : Int) = (w, ((k : Nat) : Int)) by rw [relF, if_pos hs]]
    refine ⟨h, fun t => ?_, hR, Fr.rf⟩
    refine r_ild cd_93_11 rfl rfl ?_
    refine r_con (v := 16) cd_93_12 rfl (by decide) ?_
    refine r_ic64 cd_93_14 rfl ⟨by omega, by omega⟩ ⟨by omega, by omega⟩ (fun n1 => ?_) (fun n1 => ?_)
    · exact absurd n1 (by omega)
    · refine r_ild cd_93_91 rfl rfl ?_
      exact r_ret cd_93_92 True.intro (rfl)
  | succ m ih =>
    intro k h w hR hI hb hk hkn
    obtain ⟨c, W, A⟩ := id hR
    obtain ⟨o0, o1, o2, o3, o4, o5, o6, o7, o8, o9, o10, o11, o12, o13, o14, o15, o16, o17⟩ := id W
    obtain ⟨a0, a1, a2, a3, a4, a5, a6, a7, a8, a9, a10, a11, a12, a13, a14⟩ := id A
    have hbn := hI.bNe
    have hpn := hI.pNe
    have x0 := hI.len
    have x1 := hI.hour
    have x2 := hI.gas
    have x3 := hI.leak
    have x4 := hI.gn
    have x5 := hI.bn
    have x6 := hI.pn
    have hb0 := hI.bs b (by omega)
    by_cases hs : 0 < spare w b
    · rw [show relF b (m + 1 + 1) w ((k : Nat) : Int) = (w, ((k : Nat) : Int)) by rw [relF, if_pos hs]]
      refine ⟨h, fun t => ?_, hR, Fr.rf⟩
      have hs' : loadOf w b < bo w b 1 := by unfold spare at hs; omega
      refine r_ild cd_93_11 rfl rfl ?_
      refine r_con (v := 16) cd_93_12 rfl (by decide) ?_
      refine r_ic64 cd_93_14 rfl ⟨by omega, by omega⟩ ⟨by omega, by omega⟩ (fun n1 => ?_) (fun n1 => ?_)
      · refine r_ild cd_93_17 rfl rfl ?_
        refine r_aldR cd_93_18 rfl rfl ?_
        refine r_get cd_93_19 rfl o0 rfl ?_
        refine r_get cd_93_22 rfl o5 rfl ?_
        refine r_ild cd_93_25 rfl rfl ?_
        refine r_arr (i := b) cd_93_26 rfl o7 rfl (by omega) rfl ?_
        rw [a4 (b) (by omega)]
        refine r_ic63 cd_93_27 rfl (inR_of (hI.load b) (by decide) (by decide)) (hI.boR (b := b) (k := 1) (by omega) (by decide)) (fun n2 => ?_) (fun n2 => ?_)
        · refine r_ild cd_93_91 rfl rfl ?_
          exact r_ret cd_93_92 True.intro (rfl)
        · exact absurd hs' n2
      · exact absurd n1 (by omega)
    · obtain ⟨q, h1, h2, h3⟩ := heavy_some (load_pos hI hb hs)
      have hs' : ¬ loadOf w b < bo w b 1 := by unfold spare at hs; omega
      rw [show relF b (m + 1 + 1) w ((k : Nat) : Int) = relF b (m + 1) (untW w q) ((k + 1 : Nat) : Int) by rw [relF, if_neg hs, h2, Int.toNat_natCast]; rfl]
      have ht5 := (tied_iff.mp h3).2
      obtain ⟨j1, d1, R1, F1⟩ := v_23 hR hI q (bo w b 0) h1
      rw [show putP w q 0 (bo w b 0) = untW w q by unfold untW; rw [ht5, Int.toNat_natCast]] at R1
      have hI1 := hI.unt hb h1 h3
      have hkq := unt_knots (b' := b) h1 h3
      rw [if_pos rfl] at hkq
      have hlq := unt_load (b' := b) h1 h3
      rw [if_pos rfl] at hlq
      obtain ⟨j2, d2, R2, F2⟩ := ih (k + 1) R1 hI1 (by rw [unt_bN]; exact hb) (by omega) (by omega)
      refine ⟨j2, fun t => ?_, R2, F1.tr F2⟩
      refine r_ild cd_93_11 rfl rfl ?_
      refine r_con (v := 16) cd_93_12 rfl (by decide) ?_
      refine r_ic64 cd_93_14 rfl ⟨by omega, by omega⟩ ⟨by omega, by omega⟩ (fun n1 => ?_) (fun n1 => ?_)
      · refine r_ild cd_93_17 rfl rfl ?_
        refine r_aldR cd_93_18 rfl rfl ?_
        refine r_get cd_93_19 rfl o0 rfl ?_
        refine r_get cd_93_22 rfl o5 rfl ?_
        refine r_ild cd_93_25 rfl rfl ?_
        refine r_arr (i := b) cd_93_26 rfl o7 rfl (by omega) rfl ?_
        rw [a4 (b) (by omega)]
        refine r_ic63 cd_93_27 rfl (inR_of (hI.load b) (by decide) (by decide)) (hI.boR (b := b) (k := 1) (by omega) (by decide)) (fun n2 => ?_) (fun n2 => ?_)
        · exact absurd n2 hs'
        · refine r_aldR cd_93_30 rfl rfl ?_
          refine r_get cd_93_31 rfl o0 rfl ?_
          refine r_ild cd_93_34 rfl rfl ?_
          refine r_cI (k_25 hR hI b (by omega)) cd_93_35 rfl rfl rfl (rc0 o10 rfl) rfl rfl rfl ?_
          rw [h2]
          refine r_ist cd_93_38 rfl rfl (L' := [aR B, aI ((b : Nat) : Int), aI (loadOf w b), aI ((k : Nat) : Int), aI ((q : Nat) : Int)]) rfl ?_
          refine r_aldR cd_93_40 rfl rfl ?_
          refine r_get cd_93_41 rfl o0 rfl ?_
          refine r_ild cd_93_44 rfl rfl ?_
          refine r_cI (k_26 hR hI ((q : Nat) : Int) ⟨by omega, by omega⟩) cd_93_46 rfl rfl rfl (rc0 o10 rfl) rfl rfl rfl ?_
          refine r_if52b cd_93_49 rfl (fun n3 => ?_) (fun n3 => ?_)
          · exact Bool.noConfusion (n3.symm.trans (isPa_iff.mpr ⟨by omega, by omega⟩))
          · refine r_ild cd_93_54 rfl rfl ?_
            refine r_aldR cd_93_55 rfl rfl ?_
            refine r_get cd_93_56 rfl o0 rfl ?_
            refine r_get cd_93_59 rfl o10 rfl ?_
            refine r_ild cd_93_62 rfl rfl ?_
            refine r_arr (i := q) cd_93_64 rfl o11 rfl (by omega) rfl ?_
            rw [a7 (q) (by omega)]
            refine r_sub (v := loadOf (untW w q) b) cd_93_65 rfl (by rw [hlq]) ?_
            refine r_ist cd_93_66 rfl rfl (L' := [aR B, aI ((b : Nat) : Int), aI (loadOf (untW w q) b), aI ((k : Nat) : Int), aI ((q : Nat) : Int)]) rfl ?_
            refine r_aldR cd_93_67 rfl rfl ?_
            refine r_get cd_93_68 rfl o0 rfl ?_
            refine r_ild cd_93_71 rfl rfl ?_
            refine r_aldR cd_93_73 rfl rfl ?_
            refine r_get cd_93_74 rfl o0 rfl ?_
            refine r_get cd_93_77 rfl o5 rfl ?_
            refine r_ild cd_93_80 rfl rfl ?_
            refine r_arr (i := b) cd_93_81 rfl o6 rfl (by omega) rfl ?_
            rw [a3 (b) (by omega)]
            refine r_cV d1 cd_93_82 rfl rfl rfl (rc0 o10 rfl) rfl rfl rfl ?_
            refine r_inc (v := ((k + 1 : Nat) : Int)) cd_93_85 rfl rfl rfl (by omega) (L' := [aR B, aI ((b : Nat) : Int), aI (loadOf (untW w q) b), aI ((k + 1 : Nat) : Int), aI ((q : Nat) : Int)]) rfl ?_
            refine r_goto cd_93_88 ?_
            exact d2 _
      · exact absurd n1 (by omega)
theorem v_93 {h : aH} {B : Nat} {w : Nat → Int} (hR : Rp h B w) (hI : Inv0 w) (b : Nat) (g0 : b < nB w) : ∃ h', Ct 2 93 [aR B, aI ((b : Nat) : Int)] h (.inl (some (aI (relN w b))), h') ∧ Rp h' B (relW w b) ∧ Fr B h h' := by
  obtain ⟨c, W, A⟩ := id hR
  obtain ⟨o0, o1, o2, o3, o4, o5, o6, o7, o8, o9, o10, o11, o12, o13, o14, o15, o16, o17⟩ := id W
  obtain ⟨a0, a1, a2, a3, a4, a5, a6, a7, a8, a9, a10, a11, a12, a13, a14⟩ := id A
  have hbn := hI.bNe
  have hpn := hI.pNe
  have x0 := hI.len
  have x1 := hI.hour
  have x2 := hI.gas
  have x3 := hI.leak
  have x4 := hI.gn
  have x5 := hI.bn
  have x6 := hI.pn
  have hkn := hI.knot b
  obtain ⟨j2, d2, R2, F2⟩ := lw_93 16 0 hR hI g0 (by decide) (by omega)
  refine ⟨j2, Ct.of [aR B, aI ((b : Nat) : Int), aU, aU, aU] rfl ?_, R2, F2⟩
  refine r_aldR cd_93_0 rfl rfl ?_
  refine r_get cd_93_1 rfl o0 rfl ?_
  refine r_ild cd_93_4 rfl rfl ?_
  refine r_cI (k_21 hR hI b (by omega)) cd_93_5 rfl rfl rfl (rc0 o10 rfl) rfl rfl rfl ?_
  refine r_ist cd_93_8 rfl rfl (L' := [aR B, aI ((b : Nat) : Int), aI (loadOf w b), aU, aU]) rfl ?_
  refine r_con (v := 0) cd_93_9 rfl (by decide) ?_
  refine r_ist cd_93_10 rfl rfl (L' := [aR B, aI ((b : Nat) : Int), aI (loadOf w b), aI 0, aU]) rfl ?_
  exact d2 _
theorem v_91 {h : aH} {B : Nat} {w : Nat → Int} (hR : Rp h B w) (hI : Inv0 w) (b : Nat) (g0 : b < nB w) : ∃ h', Ct 3 91 [aR B, aI ((b : Nat) : Int)] h (.inl (some (aI (freeN w b))), h') ∧ Rp h' B (freeW w b) ∧ Fr B h h' := by
  obtain ⟨c, W, A⟩ := id hR
  obtain ⟨o0, o1, o2, o3, o4, o5, o6, o7, o8, o9, o10, o11, o12, o13, o14, o15, o16, o17⟩ := id W
  obtain ⟨a0, a1, a2, a3, a4, a5, a6, a7, a8, a9, a10, a11, a12, a13, a14⟩ := id A
  have hbn := hI.bNe
  have hpn := hI.pNe
  have x0 := hI.len
  have x1 := hI.hour
  have x2 := hI.gas
  have x3 := hI.leak
  have x4 := hI.gn
  have x5 := hI.bn
  have x6 := hI.pn
  have hb0 := hI.bs b (by omega)
  obtain ⟨h1, d1, R1, F1⟩ := v_90 hR hI b g0
  have hI1 : Inv0 (sbo w b 3 0) := hI.setB (k := 3) g0 (by omega) (by omega) (by omega) (by omega) (by omega)
  have hb1 : b < nB (sbo w b 3 0) := by rw [sbo_bN]; exact g0
  have hbs := hI1.bs b hb1
  obtain ⟨c1, W1, A1⟩ := id R1
  obtain ⟨p1_0, p1_1, p1_2, p1_3, p1_4, p1_5, p1_6, p1_7, p1_8, p1_9, p1_10, p1_11, p1_12, p1_13, p1_14, p1_15, p1_16, p1_17⟩ := id W1
  obtain ⟨q1_0, q1_1, q1_2, q1_3, q1_4, q1_5, q1_6, q1_7, q1_8, q1_9, q1_10, q1_11, q1_12, q1_13, q1_14⟩ := id A1
  obtain ⟨h2, d2, R2, F2⟩ := v_92 R1 hI1 b (minI 2 (bo (sbo w b 3 0) b 1 - 1)) hb1
  have hm : 0 ≤ minI 2 (bo (sbo w b 3 0) b 1 - 1) ∧ minI 2 (bo (sbo w b 3 0) b 1 - 1) < bo (sbo w b 3 0) b 1 := by unfold minI; split <;> omega
  have hI2 : Inv0 (fr1 w b) := los_inv hI1 hb1 hm.1 hm.2
  obtain ⟨h3, d3, R3, F3⟩ := v_93 (w := fr1 w b) R2 hI2 b (by rw [show nB (fr1 w b) = nB (sbo w b 3 0) from los_bN]; exact hb1)
  obtain ⟨c2, W2, A2⟩ := id R2
  obtain ⟨p2_0, p2_1, p2_2, p2_3, p2_4, p2_5, p2_6, p2_7, p2_8, p2_9, p2_10, p2_11, p2_12, p2_13, p2_14, p2_15, p2_16, p2_17⟩ := id W2
  obtain ⟨q2_0, q2_1, q2_2, q2_3, q2_4, q2_5, q2_6, q2_7, q2_8, q2_9, q2_10, q2_11, q2_12, q2_13, q2_14⟩ := id A2
  refine ⟨h3, Ct.of [aR B, aI ((b : Nat) : Int)] rfl ?_, R3, (F1.tr F2).tr F3⟩
  refine r_aldR cd_91_0 rfl rfl ?_
  refine r_ild cd_91_1 rfl rfl ?_
  refine r_cI d1 cd_91_2 rfl rfl rfl (rc0 o0 rfl) rfl rfl rfl ?_
  refine r_pop cd_91_5 rfl rfl ?_
  refine r_aldR cd_91_6 rfl rfl ?_
  refine r_ild cd_91_7 rfl rfl ?_
  refine r_con (v := 2) cd_91_8 rfl (by decide) ?_
  refine r_aldR cd_91_9 rfl rfl ?_
  refine r_get cd_91_10 rfl p1_0 rfl ?_
  refine r_get cd_91_13 rfl p1_5 rfl ?_
  refine r_ild cd_91_16 rfl rfl ?_
  refine r_arr (i := b) cd_91_17 rfl p1_7 rfl (by omega) rfl ?_
  rw [q1_4 (b) (by omega)]
  refine r_con (v := 1) cd_91_18 rfl (by decide) ?_
  refine r_sub (v := (bo (sbo w b 3 0) b 1) - 1) cd_91_19 rfl (by rfl) ?_
  refine r_cI (k_373 2 ⟨by decide, by decide⟩ (bo (sbo w b 3 0) b 1 - 1) ⟨by omega, by omega⟩) cd_91_20 rfl rfl rfl True.intro rfl rfl rfl ?_
  refine r_cV d2 cd_91_23 rfl rfl rfl (rc0 p1_0 rfl) rfl rfl rfl ?_
  refine r_aldR cd_91_26 rfl rfl ?_
  refine r_ild cd_91_27 rfl rfl ?_
  refine r_cI d3 cd_91_28 rfl rfl rfl (rc0 p2_0 rfl) rfl rfl rfl ?_
  exact r_ret cd_91_31 True.intro (rfl)
