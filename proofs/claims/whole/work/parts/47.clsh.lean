/-! THE CLASS: changes of a World by calls (written by wip/whole/gen47.py) -/
theorem v_89 {h : aH} {B : Nat} {w : Nat → Int} (hR : Rp h B w) (hI : Inv0 w) (b : Nat) (g0 : b < nB w) : ∃ h', Ct 3 89 [aR B, aI ((b : Nat) : Int)] h (.inl (some (aI (hOf (sbo w b 3 1) b))), h') ∧ Rp h' B (sbo w b 3 1) ∧ Fr B h h' := by
  obtain ⟨c, W, A⟩ := id hR
  obtain ⟨o0, o1, o2, o3, o4, o5, o6, o7, o8, o9, o10, o11, o12, o13, o14, o15, o16, o17⟩ := id W
  obtain ⟨a0, a1, a2, a3, a4, a5, a6, a7, a8, a9, a10, a11, a12, a13, a14⟩ := id A
  have hbn := hI.bNe
  have hpn := hI.pNe
  have x0 := hI.len
  have x1 := hI.hour
  have x2 := hI.gas
  have x3 := hI.leak
  have x4 := hI.gn
  have x5 := hI.bn
  have x6 := hI.pn
  have hb0 := hI.bs b (by omega)
  have hI1 : Inv0 (sbo w b 3 1) := hI.setB (k := 3) g0 (by omega) (by omega) (by omega) (by omega) (by omega)
  have R1 : Rp (sw h (B + 9) (.inl (0, 8, .inl (va_up (c 6) b 1)))) B (sbo w b 3 1) := ⟨_, (W.s6 (f := va_up (c 6) b 1)).wk (fun j hj hn => sbo_lo (by omega)), A.sb (k := 3) hI (by omega) (by omega)⟩
  refine ⟨_, Ct.of [aR B, aI ((b : Nat) : Int)] rfl ?_, R1, (Fr.rf).sw (by omega) (by omega)⟩
  refine r_aldR cd_89_0 rfl rfl ?_
  refine r_get cd_89_1 rfl o0 rfl ?_
  refine r_get cd_89_4 rfl o5 rfl ?_
  refine r_ild cd_89_7 rfl rfl ?_
  refine r_con (v := 1) cd_89_8 rfl (by decide) ?_
  refine r_arsI (i := b) cd_89_9 rfl rfl o9 rfl (by omega) rfl ?_
  refine r_aldR cd_89_10 rfl rfl ?_
  refine r_ild cd_89_11 rfl rfl ?_
  refine r_cI (k_81 R1 hI1 b (by rw [sbo_bN]; exact g0)) cd_89_12 rfl rfl rfl (rc0 ((sw_ne (by omega)).trans o0) rfl) rfl rfl rfl ?_
  exact r_ret cd_89_15 True.intro (rfl)
theorem v_86 {h : aH} {B : Nat} {w : Nat → Int} (hR : Rp h B w) (hI : Inv0 w) (p : Nat) (b : Nat) (g0 : p < nP w) (g1 : b < nB w) (g2 : ¬ pa w p 4 = 2) : ∃ h', Ct 2 86 [aR B, aI ((p : Nat) : Int), aI ((b : Nat) : Int)] h (.inl (some (aI (loadOf (putP w p 1 ((b : Nat) : Int)) b))), h') ∧ Rp h' B (putP w p 1 ((b : Nat) : Int)) ∧ Fr B h h' := by
  obtain ⟨c, W, A⟩ := id hR
  obtain ⟨o0, o1, o2, o3, o4, o5, o6, o7, o8, o9, o10, o11, o12, o13, o14, o15, o16, o17⟩ := id W
  obtain ⟨a0, a1, a2, a3, a4, a5, a6, a7, a8, a9, a10, a11, a12, a13, a14⟩ := id A
  have hbn := hI.bNe
  have hpn := hI.pNe
  have x0 := hI.len
  have x1 := hI.hour
  have x2 := hI.gas
  have x3 := hI.leak
  have x4 := hI.gn
  have x5 := hI.bn
  have x6 := hI.pn
  have hb0 := hI.bs b (by omega)
  have hp0 := hI.ps p (by omega)
  have hI1 : Inv0 (putP w p 1 ((b : Nat) : Int)) := hI.setP g0 g2 (Or.inr (Or.inl ⟨rfl, by omega, by omega⟩))
  obtain ⟨h1, d1, R1, F1⟩ := v_24 hR hI p b g0
  obtain ⟨c1, W1, A1⟩ := id R1
  obtain ⟨p1_0, p1_1, p1_2, p1_3, p1_4, p1_5, p1_6, p1_7, p1_8, p1_9, p1_10, p1_11, p1_12, p1_13, p1_14, p1_15, p1_16, p1_17⟩ := id W1
  obtain ⟨q1_0, q1_1, q1_2, q1_3, q1_4, q1_5, q1_6, q1_7, q1_8, q1_9, q1_10, q1_11, q1_12, q1_13, q1_14⟩ := id A1
  refine ⟨h1, Ct.of [aR B, aI ((p : Nat) : Int), aI ((b : Nat) : Int)] rfl ?_, R1, F1⟩
  refine r_aldR cd_86_0 rfl rfl ?_
  refine r_get cd_86_1 rfl o0 rfl ?_
  refine r_ild cd_86_4 rfl rfl ?_
  refine r_ild cd_86_5 rfl rfl ?_
  refine r_cV d1 cd_86_6 rfl rfl rfl (rc0 o10 rfl) rfl rfl rfl ?_
  refine r_aldR cd_86_9 rfl rfl ?_
  refine r_get cd_86_10 rfl p1_0 rfl ?_
  refine r_ild cd_86_13 rfl rfl ?_
  refine r_cI (k_21 R1 hI1 b (by omega)) cd_86_14 rfl rfl rfl (rc0 p1_10 rfl) rfl rfl rfl ?_
  exact r_ret cd_86_17 True.intro (rfl)
theorem v_87 {h : aH} {B : Nat} {w : Nat → Int} (hR : Rp h B w) (hI : Inv0 w) (p : Nat) (g0 : p < nP w) (g1 : pa w p 4 = 1) : ∃ h', Ct 3 87 [aR B, aI ((p : Nat) : Int)] h (.inl (some (aI (pa w p 5))), h') ∧ Rp h' B (untW w p) ∧ Fr B h h' := by
  obtain ⟨c, W, A⟩ := id hR
  obtain ⟨o0, o1, o2, o3, o4, o5, o6, o7, o8, o9, o10, o11, o12, o13, o14, o15, o16, o17⟩ := id W
  obtain ⟨a0, a1, a2, a3, a4, a5, a6, a7, a8, a9, a10, a11, a12, a13, a14⟩ := id A
  have hbn := hI.bNe
  have hpn := hI.pNe
  have x0 := hI.len
  have x1 := hI.hour
  have x2 := hI.gas
  have x3 := hI.leak
  have x4 := hI.gn
  have x5 := hI.bn
  have x6 := hI.pn
  have hp0 := hI.ps p (by omega)
  have ec : carr w p = pa w p 5 := if_pos g1
  have ep : plOf w p = bo w (pa w p 5).toNat 0 := by unfold plOf; rw [if_neg (by omega), if_pos g1]
  obtain ⟨h1, d1, R1, F1⟩ := v_23 hR hI p (plOf w p) g0
  rw [ep] at R1
  refine ⟨h1, Ct.of [aR B, aI ((p : Nat) : Int), aU] rfl ?_, R1, F1⟩
  refine r_aldR cd_87_0 rfl rfl ?_
  refine r_get cd_87_1 rfl o0 rfl ?_
  refine r_get cd_87_4 rfl o10 rfl ?_
  refine r_ild cd_87_7 rfl rfl ?_
  refine r_arr (i := p) cd_87_8 rfl o16 rfl (by omega) rfl ?_
  rw [a12 p (by omega), ec]
  refine r_ist cd_87_9 rfl rfl (L' := [aR B, aI ((p : Nat) : Int), aI (pa w p 5)]) rfl ?_
  refine r_aldR cd_87_10 rfl rfl ?_
  refine r_get cd_87_11 rfl o0 rfl ?_
  refine r_ild cd_87_14 rfl rfl ?_
  refine r_aldR cd_87_15 rfl rfl ?_
  refine r_ild cd_87_16 rfl rfl ?_
  refine r_cI (k_88 hR hI p g0) cd_87_17 rfl rfl rfl (rc0 o0 rfl) rfl rfl rfl ?_
  refine r_cV d1 cd_87_20 rfl rfl rfl (rc0 o10 rfl) rfl rfl rfl ?_
  refine r_ild cd_87_23 rfl rfl ?_
  exact r_ret cd_87_24 True.intro (rfl)
