/-! THE CLASS: simple changes of a World (written by wip/whole/gen46.py) -/
theorem v_52 {h : aH} {B : Nat} {w : Nat → Int} (hR : Rp h B w) (hI : Inv0 w) (x : Nat) (v : Int) (g0 : x < 30) : ∃ h', Ct 1 52 [aR (B + 1), aI ((x : Nat) : Int), aI v] h (.inl (some (aI (w (23 + x)))), h') ∧ Rp h' B (va_up w (23 + x) v) ∧ Fr B h h' := by
  obtain ⟨c, W, A⟩ := hR
  obtain ⟨o0, o1, o2, o3, o4, o5, o6, o7, o8, o9, o10, o11, o12, o13, o14, o15, o16, o17⟩ := id W
  obtain ⟨a0, a1, a2, a3, a4, a5, a6, a7, a8, a9, a10, a11, a12, a13, a14⟩ := id A
  have hbn := hI.bNe
  have hpn := hI.pNe
  have x0 := hI.len
  have x1 := hI.hour
  have x2 := hI.gas
  have x3 := hI.leak
  have x4 := hI.gn
  have x5 := hI.bn
  have x6 := hI.pn
  refine ⟨_, Ct.of [aR (B + 1), aI ((x : Nat) : Int), aI v, aU] rfl ?_, ⟨_, (W.s0 (f := va_up (c 0) x v)).wk (fun j hj hn => vu_ne (by omega)), A.roof hI g0⟩, (Fr.rf).sw (by omega) (by omega)⟩
  refine r_aldR cd_52_0 rfl rfl ?_
  refine r_get cd_52_1 rfl o1 rfl ?_
  refine r_ild cd_52_4 rfl rfl ?_
  refine r_arr (i := x) cd_52_5 rfl o2 rfl (by omega) rfl ?_
  rw [a0 (x) (by omega)]
  refine r_ist cd_52_6 rfl rfl (L' := [aR (B + 1), aI ((x : Nat) : Int), aI v, aI (w (23 + x))]) rfl ?_
  refine r_aldR cd_52_7 rfl rfl ?_
  refine r_get cd_52_8 rfl o1 rfl ?_
  refine r_ild cd_52_11 rfl rfl ?_
  refine r_ild cd_52_12 rfl rfl ?_
  refine r_arsI (i := x) cd_52_13 rfl rfl o2 rfl (by omega) rfl ?_
  refine r_ild cd_52_14 rfl rfl ?_
  exact r_ret cd_52_15 True.intro (rfl)
theorem v_53 {h : aH} {B : Nat} {w : Nat → Int} (hR : Rp h B w) (hI : Inv0 w) (x : Nat) (v : Int) (g0 : x < 30) : ∃ h', Ct 1 53 [aR (B + 1), aI ((x : Nat) : Int), aI v] h (.inl (some (aI (w (53 + x)))), h') ∧ Rp h' B (va_up w (53 + x) v) ∧ Fr B h h' := by
  obtain ⟨c, W, A⟩ := hR
  obtain ⟨o0, o1, o2, o3, o4, o5, o6, o7, o8, o9, o10, o11, o12, o13, o14, o15, o16, o17⟩ := id W
  obtain ⟨a0, a1, a2, a3, a4, a5, a6, a7, a8, a9, a10, a11, a12, a13, a14⟩ := id A
  have hbn := hI.bNe
  have hpn := hI.pNe
  have x0 := hI.len
  have x1 := hI.hour
  have x2 := hI.gas
  have x3 := hI.leak
  have x4 := hI.gn
  have x5 := hI.bn
  have x6 := hI.pn
  refine ⟨_, Ct.of [aR (B + 1), aI ((x : Nat) : Int), aI v, aU] rfl ?_, ⟨_, (W.s1 (f := va_up (c 1) x v)).wk (fun j hj hn => vu_ne (by omega)), A.tree hI g0⟩, (Fr.rf).sw (by omega) (by omega)⟩
  refine r_aldR cd_53_0 rfl rfl ?_
  refine r_get cd_53_1 rfl o1 rfl ?_
  refine r_ild cd_53_4 rfl rfl ?_
  refine r_arr (i := x) cd_53_5 rfl o3 rfl (by omega) rfl ?_
  rw [a1 (x) (by omega)]
  refine r_ist cd_53_6 rfl rfl (L' := [aR (B + 1), aI ((x : Nat) : Int), aI v, aI (w (53 + x))]) rfl ?_
  refine r_aldR cd_53_7 rfl rfl ?_
  refine r_get cd_53_8 rfl o1 rfl ?_
  refine r_ild cd_53_11 rfl rfl ?_
  refine r_ild cd_53_12 rfl rfl ?_
  refine r_arsI (i := x) cd_53_13 rfl rfl o3 rfl (by omega) rfl ?_
  refine r_ild cd_53_14 rfl rfl ?_
  exact r_ret cd_53_15 True.intro (rfl)
theorem v_55 {h : aH} {B : Nat} {w : Nat → Int} (hR : Rp h B w) (hI : Inv0 w) (v : Int) : ∃ h', Ct 1 55 [aR (B + 1), aI v] h (.inl (some (aI (w 3))), h') ∧ Rp h' B (va_up w 3 v) ∧ Fr B h h' := by
  obtain ⟨c, W, A⟩ := hR
  obtain ⟨o0, o1, o2, o3, o4, o5, o6, o7, o8, o9, o10, o11, o12, o13, o14, o15, o16, o17⟩ := id W
  obtain ⟨a0, a1, a2, a3, a4, a5, a6, a7, a8, a9, a10, a11, a12, a13, a14⟩ := id A
  have hbn := hI.bNe
  have hpn := hI.pNe
  have x0 := hI.len
  have x1 := hI.hour
  have x2 := hI.gas
  have x3 := hI.leak
  have x4 := hI.gn
  have x5 := hI.bn
  have x6 := hI.pn
  refine ⟨_, Ct.of [aR (B + 1), aI v, aU] rfl ?_, ⟨_, W.street (w' := va_up w 3 v) rfl rfl rfl (fun j hj h9 e0 e4 e3 => vu_ne e3), A.sc hI (by omega)⟩, (Fr.rf).sw (by omega) (by omega)⟩
  refine r_aldR cd_55_0 rfl rfl ?_
  refine r_get cd_55_1 rfl o1 rfl ?_
  refine r_ist cd_55_4 rfl rfl (L' := [aR (B + 1), aI v, aI (w 3)]) rfl ?_
  refine r_aldR cd_55_5 rfl rfl ?_
  refine r_ild cd_55_6 rfl rfl ?_
  refine r_put (fs' := [aR (B + 2), aR (B + 3), aR (B + 4), aI (w 0), aI (w 4), aI v]) cd_55_7 rfl o1 rfl rfl ?_
  refine r_ild cd_55_10 rfl rfl ?_
  exact r_ret cd_55_11 True.intro (rfl)
theorem v_23 {h : aH} {B : Nat} {w : Nat → Int} (hR : Rp h B w) (hI : Inv0 w) (p : Nat) (x : Int) (g0 : p < nP w) : ∃ h', Ct 1 23 [aR (B + 10), aI ((p : Nat) : Int), aI x] h (.inl (none), h') ∧ Rp h' B (putP w p 0 x) ∧ Fr B h h' := by
  obtain ⟨c, W, A⟩ := hR
  obtain ⟨o0, o1, o2, o3, o4, o5, o6, o7, o8, o9, o10, o11, o12, o13, o14, o15, o16, o17⟩ := id W
  obtain ⟨a0, a1, a2, a3, a4, a5, a6, a7, a8, a9, a10, a11, a12, a13, a14⟩ := id A
  have hbn := hI.bNe
  have hpn := hI.pNe
  have x0 := hI.len
  have x1 := hI.hour
  have x2 := hI.gas
  have x3 := hI.leak
  have x4 := hI.gn
  have x5 := hI.bn
  have x6 := hI.pn
  refine ⟨_, Ct.of [aR (B + 10), aI ((p : Nat) : Int), aI x] rfl ?_, ⟨_, (((W.s11 (f := va_up (c 11) p 0)).s12 (f := va_up (c 12) p (-1))).s13 (f := va_up (c 13) p x)).wk (fun j hj hn => put_lo (by omega)), A.put hI g0 rfl rfl⟩, (((Fr.rf).sw (by omega) (by omega)).sw (by omega) (by omega)).sw (by omega) (by omega)⟩
  refine r_aldR cd_23_0 rfl rfl ?_
  refine r_get cd_23_1 rfl o10 rfl ?_
  refine r_ild cd_23_4 rfl rfl ?_
  refine r_con (v := 0) cd_23_5 rfl (by decide) ?_
  refine r_arsI (i := p) cd_23_6 rfl rfl o15 rfl (by omega) rfl ?_
  refine r_aldR cd_23_7 rfl rfl ?_
  refine r_get cd_23_8 rfl ((sw_ne (by omega)).trans o10) rfl ?_
  refine r_ild cd_23_11 rfl rfl ?_
  refine r_con (v := (-1)) cd_23_12 rfl (by decide) ?_
  refine r_arsI (i := p) cd_23_13 rfl rfl ((sw_ne (by omega)).trans o16) rfl (by omega) rfl ?_
  refine r_aldR cd_23_14 rfl rfl ?_
  refine r_get cd_23_15 rfl ((sw_ne (by omega)).trans ((sw_ne (by omega)).trans o10)) rfl ?_
  refine r_ild cd_23_18 rfl rfl ?_
  refine r_ild cd_23_19 rfl rfl ?_
  refine r_arsI (i := p) cd_23_20 rfl rfl ((sw_ne (by omega)).trans ((sw_ne (by omega)).trans o17)) rfl (by omega) rfl ?_
  exact r_void cd_23_21 rfl (rfl)
theorem v_24 {h : aH} {B : Nat} {w : Nat → Int} (hR : Rp h B w) (hI : Inv0 w) (p : Nat) (b : Nat) (g0 : p < nP w) : ∃ h', Ct 1 24 [aR (B + 10), aI ((p : Nat) : Int), aI ((b : Nat) : Int)] h (.inl (none), h') ∧ Rp h' B (putP w p 1 ((b : Nat) : Int)) ∧ Fr B h h' := by
  obtain ⟨c, W, A⟩ := hR
  obtain ⟨o0, o1, o2, o3, o4, o5, o6, o7, o8, o9, o10, o11, o12, o13, o14, o15, o16, o17⟩ := id W
  obtain ⟨a0, a1, a2, a3, a4, a5, a6, a7, a8, a9, a10, a11, a12, a13, a14⟩ := id A
  have hbn := hI.bNe
  have hpn := hI.pNe
  have x0 := hI.len
  have x1 := hI.hour
  have x2 := hI.gas
  have x3 := hI.leak
  have x4 := hI.gn
  have x5 := hI.bn
  have x6 := hI.pn
  refine ⟨_, Ct.of [aR (B + 10), aI ((p : Nat) : Int), aI ((b : Nat) : Int)] rfl ?_, ⟨_, (((W.s11 (f := va_up (c 11) p 1)).s12 (f := va_up (c 12) p ((b : Nat) : Int))).s13 (f := va_up (c 13) p (-1))).wk (fun j hj hn => put_lo (by omega)), A.put hI g0 rfl rfl⟩, (((Fr.rf).sw (by omega) (by omega)).sw (by omega) (by omega)).sw (by omega) (by omega)⟩
  refine r_aldR cd_24_0 rfl rfl ?_
  refine r_get cd_24_1 rfl o10 rfl ?_
  refine r_ild cd_24_4 rfl rfl ?_
  refine r_con (v := 1) cd_24_5 rfl (by decide) ?_
  refine r_arsI (i := p) cd_24_6 rfl rfl o15 rfl (by omega) rfl ?_
  refine r_aldR cd_24_7 rfl rfl ?_
  refine r_get cd_24_8 rfl ((sw_ne (by omega)).trans o10) rfl ?_
  refine r_ild cd_24_11 rfl rfl ?_
  refine r_ild cd_24_12 rfl rfl ?_
  refine r_arsI (i := p) cd_24_13 rfl rfl ((sw_ne (by omega)).trans o16) rfl (by omega) rfl ?_
  refine r_aldR cd_24_14 rfl rfl ?_
  refine r_get cd_24_15 rfl ((sw_ne (by omega)).trans ((sw_ne (by omega)).trans o10)) rfl ?_
  refine r_ild cd_24_18 rfl rfl ?_
  refine r_con (v := (-1)) cd_24_19 rfl (by decide) ?_
  refine r_arsI (i := p) cd_24_20 rfl rfl ((sw_ne (by omega)).trans ((sw_ne (by omega)).trans o17)) rfl (by omega) rfl ?_
  exact r_void cd_24_21 rfl (rfl)
theorem v_27 {h : aH} {B : Nat} {w : Nat → Int} (hR : Rp h B w) (hI : Inv0 w) (p : Nat) (g0 : p < nP w) : ∃ h', Ct 1 27 [aR (B + 10), aI ((p : Nat) : Int)] h (.inl (none), h') ∧ Rp h' B (putP w p 2 (-1)) ∧ Fr B h h' := by
  obtain ⟨c, W, A⟩ := hR
  obtain ⟨o0, o1, o2, o3, o4, o5, o6, o7, o8, o9, o10, o11, o12, o13, o14, o15, o16, o17⟩ := id W
  obtain ⟨a0, a1, a2, a3, a4, a5, a6, a7, a8, a9, a10, a11, a12, a13, a14⟩ := id A
  have hbn := hI.bNe
  have hpn := hI.pNe
  have x0 := hI.len
  have x1 := hI.hour
  have x2 := hI.gas
  have x3 := hI.leak
  have x4 := hI.gn
  have x5 := hI.bn
  have x6 := hI.pn
  refine ⟨_, Ct.of [aR (B + 10), aI ((p : Nat) : Int)] rfl ?_, ⟨_, (((W.s11 (f := va_up (c 11) p 2)).s12 (f := va_up (c 12) p (-1))).s13 (f := va_up (c 13) p (-1))).wk (fun j hj hn => put_lo (by omega)), A.put hI g0 rfl rfl⟩, (((Fr.rf).sw (by omega) (by omega)).sw (by omega) (by omega)).sw (by omega) (by omega)⟩
  refine r_aldR cd_27_0 rfl rfl ?_
  refine r_get cd_27_1 rfl o10 rfl ?_
  refine r_ild cd_27_4 rfl rfl ?_
  refine r_con (v := 2) cd_27_5 rfl (by decide) ?_
  refine r_arsI (i := p) cd_27_6 rfl rfl o15 rfl (by omega) rfl ?_
  refine r_aldR cd_27_7 rfl rfl ?_
  refine r_get cd_27_8 rfl ((sw_ne (by omega)).trans o10) rfl ?_
  refine r_ild cd_27_11 rfl rfl ?_
  refine r_con (v := (-1)) cd_27_12 rfl (by decide) ?_
  refine r_arsI (i := p) cd_27_13 rfl rfl ((sw_ne (by omega)).trans o16) rfl (by omega) rfl ?_
  refine r_aldR cd_27_14 rfl rfl ?_
  refine r_get cd_27_15 rfl ((sw_ne (by omega)).trans ((sw_ne (by omega)).trans o10)) rfl ?_
  refine r_ild cd_27_18 rfl rfl ?_
  refine r_con (v := (-1)) cd_27_19 rfl (by decide) ?_
  refine r_arsI (i := p) cd_27_20 rfl rfl ((sw_ne (by omega)).trans ((sw_ne (by omega)).trans o17)) rfl (by omega) rfl ?_
  exact r_void cd_27_21 rfl (rfl)
theorem v_90 {h : aH} {B : Nat} {w : Nat → Int} (hR : Rp h B w) (hI : Inv0 w) (b : Nat) (g0 : b < nB w) : ∃ h', Ct 1 90 [aR B, aI ((b : Nat) : Int)] h (.inl (some (aI (bo w b 0))), h') ∧ Rp h' B (sbo w b 3 0) ∧ Fr B h h' := by
  obtain ⟨c, W, A⟩ := hR
  obtain ⟨o0, o1, o2, o3, o4, o5, o6, o7, o8, o9, o10, o11, o12, o13, o14, o15, o16, o17⟩ := id W
  obtain ⟨a0, a1, a2, a3, a4, a5, a6, a7, a8, a9, a10, a11, a12, a13, a14⟩ := id A
  have hbn := hI.bNe
  have hpn := hI.pNe
  have x0 := hI.len
  have x1 := hI.hour
  have x2 := hI.gas
  have x3 := hI.leak
  have x4 := hI.gn
  have x5 := hI.bn
  have x6 := hI.pn
  refine ⟨_, Ct.of [aR B, aI ((b : Nat) : Int)] rfl ?_, ⟨_, (W.s6 (f := va_up (c 6) b 0)).wk (fun j hj hn => sbo_lo (by omega)), A.sb (k := 3) hI (by omega) (by omega)⟩, (Fr.rf).sw (by omega) (by omega)⟩
  refine r_aldR cd_90_0 rfl rfl ?_
  refine r_get cd_90_1 rfl o0 rfl ?_
  refine r_get cd_90_4 rfl o5 rfl ?_
  refine r_ild cd_90_7 rfl rfl ?_
  refine r_con (v := 0) cd_90_8 rfl (by decide) ?_
  refine r_arsI (i := b) cd_90_9 rfl rfl o9 rfl (by omega) rfl ?_
  refine r_aldR cd_90_10 rfl rfl ?_
  refine r_get cd_90_11 rfl ((sw_ne (by omega)).trans o0) rfl ?_
  refine r_get cd_90_14 rfl ((sw_ne (by omega)).trans o5) rfl ?_
  refine r_ild cd_90_17 rfl rfl ?_
  refine r_arr (i := b) cd_90_18 rfl ((sw_ne (by omega)).trans o6) rfl (by omega) rfl ?_
  rw [a3 (b) (by omega)]
  exact r_ret cd_90_19 True.intro (rfl)
theorem v_92 {h : aH} {B : Nat} {w : Nat → Int} (hR : Rp h B w) (hI : Inv0 w) (b : Nat) (l : Int) (g0 : b < nB w) : ∃ h', Ct 1 92 [aR B, aI ((b : Nat) : Int), aI l] h (.inl (none), h') ∧ Rp h' B (losW w b l) ∧ Fr B h h' := by
  obtain ⟨c, W, A⟩ := hR
  obtain ⟨o0, o1, o2, o3, o4, o5, o6, o7, o8, o9, o10, o11, o12, o13, o14, o15, o16, o17⟩ := id W
  obtain ⟨a0, a1, a2, a3, a4, a5, a6, a7, a8, a9, a10, a11, a12, a13, a14⟩ := id A
  have hbn := hI.bNe
  have hpn := hI.pNe
  have x0 := hI.len
  have x1 := hI.hour
  have x2 := hI.gas
  have x3 := hI.leak
  have x4 := hI.gn
  have x5 := hI.bn
  have x6 := hI.pn
  refine ⟨_, Ct.of [aR B, aI ((b : Nat) : Int), aI l] rfl ?_, ⟨_, ((W.s4 (f := va_up (c 4) b (bo w b 1 - l))).wk (w' := sbo w b 1 (bo w b 1 - l)) (fun j hj hn => sbo_lo (by omega))).wrk (w' := losW w b l) (los_lo (by decide) (by decide)) (los_lo (by decide) (by decide)) (los_lo (by decide) (by decide)) (los_lo (by decide) (by decide)) (show losW w b l 10 = w 10 + l by unfold losW; rw [vu_at, sbo_lo (by decide)]) (fun j hj _ _ _ _ _ h10 => vu_ne h10), (A.sb (k := 1) hI (by omega) (by omega)).sc2 (by omega)⟩, ((Fr.rf).sw (by omega) (by omega)).sw (by omega) (by omega)⟩
  refine r_aldR cd_92_0 rfl rfl ?_
  refine r_get cd_92_1 rfl o0 rfl ?_
  refine r_get cd_92_4 rfl o5 rfl ?_
  refine r_ild cd_92_7 rfl rfl ?_
  refine r_dup2 cd_92_8 rfl rfl rfl ?_
  refine r_arr (i := b) cd_92_9 rfl o7 rfl (by omega) rfl ?_
  rw [a4 (b) (by omega)]
  refine r_ild cd_92_10 rfl rfl ?_
  refine r_sub (v := (bo w b 1) - l) cd_92_11 rfl (by rfl) ?_
  refine r_arsI (i := b) cd_92_12 rfl rfl o7 rfl (by omega) rfl ?_
  refine r_aldR cd_92_13 rfl rfl ?_
  refine r_dup cd_92_14 rfl rfl ?_
  refine r_get cd_92_15 rfl ((sw_ne (by omega)).trans o0) rfl ?_
  refine r_ild cd_92_18 rfl rfl ?_
  refine r_add (v := (w 10) + l) cd_92_19 rfl (by rfl) ?_
  refine r_put (fs' := [aR (B + 1), aR (B + 5), aR (B + 10), aI (w 1), aI (w 2), aI (w 7), aI (w 8), aI (c 14 0), aI (c 14 1), aI ((w 10) + l)]) cd_92_20 rfl ((sw_ne (by omega)).trans o0) rfl rfl ?_
  exact r_void cd_92_23 rfl (rfl)
theorem v_95 {h : aH} {B : Nat} {w : Nat → Int} (hR : Rp h B w) (hI : Inv0 w) (g : Int) : ∃ h', Ct 1 95 [aR B, aI g] h (.inl (some (aI (w 2 + g))), h') ∧ Rp h' B (va_up w 2 (w 2 + g)) ∧ Fr B h h' := by
  obtain ⟨c, W, A⟩ := hR
  obtain ⟨o0, o1, o2, o3, o4, o5, o6, o7, o8, o9, o10, o11, o12, o13, o14, o15, o16, o17⟩ := id W
  obtain ⟨a0, a1, a2, a3, a4, a5, a6, a7, a8, a9, a10, a11, a12, a13, a14⟩ := id A
  have hbn := hI.bNe
  have hpn := hI.pNe
  have x0 := hI.len
  have x1 := hI.hour
  have x2 := hI.gas
  have x3 := hI.leak
  have x4 := hI.gn
  have x5 := hI.bn
  have x6 := hI.pn
  refine ⟨_, Ct.of [aR B, aI g] rfl ?_, ⟨_, W.wrk (w' := va_up w 2 (w 2 + g)) rfl rfl rfl rfl rfl (fun j hj _ _ h2 _ _ _ => vu_ne h2), A.sc hI (by omega)⟩, (Fr.rf).sw (by omega) (by omega)⟩
  refine r_aldR cd_95_0 rfl rfl ?_
  refine r_dup cd_95_1 rfl rfl ?_
  refine r_get cd_95_2 rfl o0 rfl ?_
  refine r_ild cd_95_5 rfl rfl ?_
  refine r_add (v := (w 2) + g) cd_95_6 rfl (by rfl) ?_
  refine r_put (fs' := [aR (B + 1), aR (B + 5), aR (B + 10), aI (w 1), aI ((w 2) + g), aI (w 7), aI (w 8), aI (c 14 0), aI (c 14 1), aI (w 10)]) cd_95_7 rfl o0 rfl rfl ?_
  refine r_aldR cd_95_10 rfl rfl ?_
  refine r_get cd_95_11 rfl (sw_at _ _ _) rfl ?_
  exact r_ret cd_95_14 True.intro (rfl)
